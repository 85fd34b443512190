/-! both sides: reading, sending, receiving, new keys, a new session -/
section PS2
variable {M : mm_M} {ts rs q : Nat}
theorem rM_0 (M0 : mm_M) (q p : Nat) (N : mm_M) (hw : ¬ f_X7_readsNext (49 + 17 * q) N = 0) (h : M0.1 (49 + 17 * q) 10 = nI 0) : f_X11_read_B3 M0 q p N = f_X11_tell (f_X7_readMessage_0 (49 + 17 * q) p N).1 (f_X7_readMessage_0 (49 + 17 * q) p N).2 := by
  unfold f_X11_read_B3
  rw [if_pos hw]
  unfold f_X11_read_B2
  rw [if_pos (show M0.1 (49 + 17 * q) 10 = 0 from h)]
theorem rM_1 (M0 : mm_M) (q p : Nat) (N : mm_M) (hw : ¬ f_X7_readsNext (49 + 17 * q) N = 0) (h : M0.1 (49 + 17 * q) 10 = nI 1) : f_X11_read_B3 M0 q p N = f_X11_tell (f_X7_readMessage_1 (49 + 17 * q) p N).1 (f_X7_readMessage_1 (49 + 17 * q) p N).2 := by
  unfold f_X11_read_B3
  rw [if_pos hw]
  unfold f_X11_read_B2
  rw [if_neg (by rw [h]; decide)]
  unfold f_X11_read_B1
  rw [if_pos (show M0.1 (49 + 17 * q) 10 = 1 from h)]
theorem rM_2 (M0 : mm_M) (q p : Nat) (N : mm_M) (hw : ¬ f_X7_readsNext (49 + 17 * q) N = 0) (h : M0.1 (49 + 17 * q) 10 = nI 2) : f_X11_read_B3 M0 q p N = f_X11_tell (f_X7_readMessage_2 (49 + 17 * q) p N).1 (f_X7_readMessage_2 (49 + 17 * q) p N).2 := by
  unfold f_X11_read_B3
  rw [if_pos hw]
  unfold f_X11_read_B2
  rw [if_neg (by rw [h]; decide)]
  unfold f_X11_read_B1
  rw [if_neg (by rw [h]; decide)]
theorem p_read (h : pubR M ts rs) (v1 v2 : Int32) : simR (f_X11_read v1 v2 ts M) (f_X12_read v1 v2 ts (f_X11_read v1 v2 ts M).2) := by
  have h' := h
  obtain ⟨⟨ht, hr⟩, ⟨e1, e2, e3, e4⟩, hta, hre, hke, hta2, ⟨hT, hz⟩, hs⟩ := h
  by_cases c : ¬ f_X11_hasBegun v1 M = 0 ∧ ¬ f_X11_isOnTape v2 M = 0
  · obtain ⟨g1, g2⟩ := g_isOnTape ht e1 c.2
    obtain ⟨hq, st, ini, rf, S, os, oe, xs, xe, ks, kr, ns, nr, h1, h2, h3, h4, h5, h6⟩ := beg_get h' c.1
    have eA : f_X11_read v1 v2 ts M = f_X11_read_B3 M v1.toNatClampNeg v2.toNatClampNeg (f_X11_emptyTape M) := by
      unfold f_X11_read
      rw [if_pos c]
    have eB : ∀ N, N.1 159 = M.1 159 → f_X12_read v1 v2 ts N = f_X12_read_B3 v1.toNatClampNeg v2.toNatClampNeg (f_X12_takes ts N) := fun N hN => by
      unfold f_X12_read
      rw [if_pos ⟨by rw [isS_fr hN, beg_eq h']; exact c.1, by rw [tape_eq e1]; exact c.2⟩]
    rw [eA]
    generalize v1.toNatClampNeg = q at *
    generalize v2.toNatClampNeg = p at *
    obtain ⟨Me, he⟩ : ∃ Me, Me = f_X11_emptyTape M := ⟨_, rfl⟩
    rw [← he]
    have we : mm_fr [0] M Me := by rw [he]; exact w_f_X11_emptyTape M
    have hEe := h5.keep (N := Me) (fun k z1 z2 => we k (by simp <;> omega))
    have hVe := hta2.1.fr we (by simp)
    have t1e : Me.1 1 = M.1 1 := (we 1 (by decide)).1
    have t2e : Me.1 2 = M.1 2 := (we 2 (by decide)).1
    have wn := (wn_e hEe.1 hEe.2.1 h1 h2).2
    have B3 : ∀ N L1, mm_fr L1 M N → (∀ a ∈ L1, a < 117) → st < 3 ∧ ¬ wr st ini → f_X12_read_B3 q p (f_X12_takes ts N) = f_X12_read_B2 q p (f_X12_takes ts N) ∧ f_X12_isToWrite q (f_X12_takes ts N) = 0 := fun N L1 w l z => by
      have hr6 := r_ups (ts := ts) h6 w l
      refine ⟨?_, ?_⟩
      · unfold f_X12_read_B3
        rw [if_neg (fun y => by rw [hr6.2.2.1] at y; exact absurd ((nI_eq (b := 3) (by omega) (by decide)).mp y) (by omega))]
      · rcases Classical.em (f_X12_isToWrite q (f_X12_takes ts N) = 0) with y | y
        · exact y
        · exact absurd ((wn_r hr6.2.1 hr6.2.2.1 h1 h2).mp y) z.2
    have stp : M.1 (49 + 17 * q) 10 = nI st := h5.2.1
    by_cases hw : st < 3 ∧ ¬ wr st ini
    · have hwn := wn.mpr hw
      have hw' : (st = 0 ∧ ini = 0) ∨ (st = 1 ∧ ini = 1) ∨ (st = 2 ∧ ini = 0) := by
        unfold wr at hw
        rcases (show st = 0 ∨ st = 1 ∨ st = 2 by omega) with z | z | z <;> rcases h2 with y | y <;> simp [z, y] at hw ⊢
      rcases hw' with ⟨rfl, hi⟩ | ⟨rfl, hi⟩ | ⟨rfl, hi⟩
      · rw [rM_0 M q p Me hwn stp]
        obtain ⟨y1, y2⟩ := e_r0 (p1 := p) (by omega) (by omega) (by omega) hi hVe hEe
        have wm := (w_f_X7_readMessage_0 (49 + 17 * q) p Me).m
        generalize f_X7_readMessage_0 (49 + 17 * q) p Me = X at *
        have f0 : mm_fr (0 :: [43 + 1, 43 + 2, 43 + 4, 43 + 3, 49 + 17 * q + 4, 24, 23, 26, 25, 49 + 17 * q + 5 + 1, 34, 35, 33, 37, 40, 38, 39, 31, 41, 2, 49 + 17 * q + 5 + 3, 49 + 17 * q, 49 + 17 * q + 6, 49 + 17 * q + 7, 49 + 17 * q + 9]) M X.2 := wm.on (fun a z => List.mem_cons_of_mem _ z) (we.on (by simp) (mm_fr_refl _ _))
        have l1 : ∀ a ∈ 0 :: [43 + 1, 43 + 2, 43 + 4, 43 + 3, 49 + 17 * q + 4, 24, 23, 26, 25, 49 + 17 * q + 5 + 1, 34, 35, 33, 37, 40, 38, 39, 31, 41, 2, 49 + 17 * q + 5 + 3, 49 + 17 * q, 49 + 17 * q + 6, 49 + 17 * q + 7, 49 + 17 * q + 9], a < 117 := by simp <;> omega
        by_cases ok : rOK0 S (Me.1 1) p
        · obtain ⟨x1, x2, x3⟩ := y1 ok
          have hn : syL (wS1 S (Me.1 1)) (p - 32) ≤ 1000 := by have := syL_le (wS1 S (Me.1 1)) (p - 32); omega
          rw [x1, tell_1 _ _ (nI_neg1 _ (by omega))]
          dsimp only
          generalize hnn : syL (wS1 S (Me.1 1)) (p - 32) = n at *
          have f1 := mm_fr_w (k := 0) (j := 3) (v := nI n) (by simp) f0
          rw [eB _ (f1 159 (fun z => by have := l1 _ z; omega)).1, (B3 _ _ f1 l1 hw).1]
          obtain ⟨u1, u2⟩ := r_upT h' f1 l1
          have tt : ∀ j, j < p → (f_X12_takes ts (mm_w X.2 0 3 (nI n))).1 119 j = Me.1 1 j := fun j hj => by rw [(u2 j (by omega)).1, (u2 j (by omega)).2, t1e]
          obtain ⟨kk, -⟩ := r_r0 (n := p) (by omega) hi (B3 _ _ f1 l1 hw).2 u1 (r_ups (ts := ts) h6 f1 l1)
          obtain ⟨k1, k2, k3, k4⟩ := kk ((rOK0_c tt).mpr ok)
          have w2 := (w_f_X12_read_B2 q p (f_X12_takes ts (mm_w X.2 0 3 (nI n)))).m
          have c32 := ok.1
          rw [wS1_c (S := S) (fun j hj => tt j (by omega)), hnn] at k1 k3
          rw [wS1_c (S := S) (fun j hj => tt j (by omega)), hnn] at k2
          rw [wS1_c (S := S) (fun j hj => tt j (by omega)), syD_congr (a := sh 32 ((f_X12_takes ts (mm_w X.2 0 3 (nI n))).1 119)) (b := sh 32 (Me.1 1)) (fun j hj => tt _ (by omega))] at k4
          refine se_row h' hq he wm (by simp <;> omega) hn x2 _ k1 (fun i hi => ?_) k3 w2 (by simp) ⟨1, ini, rf, _, os, oe, xs, _, ks, kr, ns, nr, by omega, h2, fun _ => h3 (by omega), fun z => by omega, x3, k4.cx (fun _ _ => rfl) (fun j hj => tt j (by omega))⟩
          rw [k2 i hi]
          exact syP_congr (n := p - 32) (fun j hj => tt _ (by omega)) i (by have := syL_le (wS1 S (Me.1 1)) (p - 32); omega)
        · obtain ⟨x1, x2, x3⟩ := y2 ok
          rw [x1, tell_0]
          dsimp only
          rw [eB _ (f0 159 (fun z => by have := l1 _ z; omega)).1, (B3 _ _ f0 l1 hw).1]
          obtain ⟨u1, u2⟩ := r_upT h' f0 l1
          have tt : ∀ j, j < p → (f_X12_takes ts X.2).1 119 j = Me.1 1 j := fun j hj => by rw [(u2 j (by omega)).1, (u2 j (by omega)).2, t1e]
          obtain ⟨-, kk⟩ := r_r0 (n := p) (by omega) hi (B3 _ _ f0 l1 hw).2 u1 (r_ups (ts := ts) h6 f0 l1)
          obtain ⟨k1, k2, k3⟩ := kk (fun z => ok ((rOK0_c tt).mp z))
          have w2 := (w_f_X12_read_B2 q p (f_X12_takes ts X.2)).m
          exact se_none h' hq he wm (by simp <;> omega) (by rw [x2, t2e]) _ k1 k2 w2 (by simp) ⟨0, ini, rf + 1, S, os, oe, xs, xe, ks, kr, ns, nr, by omega, h2, fun _ => h3 (by omega), fun z => by omega, x3, k3⟩
      · have hi0 : ¬ ini = 0 := by rw [hi]; decide
        rw [rM_1 M q p Me hwn stp]
        obtain ⟨y1, y2⟩ := e_r1 (p1 := p) (by omega) (by omega) (by omega) hi0 hVe hEe
        have wm := (w_f_X7_readMessage_1 (49 + 17 * q) p Me).m
        generalize f_X7_readMessage_1 (49 + 17 * q) p Me = X at *
        have f0 : mm_fr (0 :: [43 + 1, 43 + 2, 43 + 4, 43 + 3, 49 + 17 * q + 4, 24, 23, 26, 25, 49 + 17 * q + 5 + 1, 14, 16, 17, 18, 19, 20, 22, 21, 15, 28, 29, 30, 49 + 17 * q + 5 + 2, 49 + 17 * q + 5 + 4, 49 + 17 * q + 5 + 3, 34, 35, 33, 37, 40, 38, 39, 31, 41, 49 + 17 * q + 3, 2, 49 + 17 * q, 49 + 17 * q + 6, 49 + 17 * q + 7, 49 + 17 * q + 9]) M X.2 := wm.on (fun a z => List.mem_cons_of_mem _ z) (we.on (by simp) (mm_fr_refl _ _))
        have l1 : ∀ a ∈ 0 :: [43 + 1, 43 + 2, 43 + 4, 43 + 3, 49 + 17 * q + 4, 24, 23, 26, 25, 49 + 17 * q + 5 + 1, 14, 16, 17, 18, 19, 20, 22, 21, 15, 28, 29, 30, 49 + 17 * q + 5 + 2, 49 + 17 * q + 5 + 4, 49 + 17 * q + 5 + 3, 34, 35, 33, 37, 40, 38, 39, 31, 41, 49 + 17 * q + 3, 2, 49 + 17 * q, 49 + 17 * q + 6, 49 + 17 * q + 7, 49 + 17 * q + 9], a < 117 := by simp <;> omega
        by_cases ok : rOK1 S oe (Me.1 1) p
        · obtain ⟨x1, x2, x3⟩ := y1 ok
          rw [x1, tell_1 _ _ (nI_neg1 _ (by omega))]
          dsimp only
          have f1 := mm_fr_w (k := 0) (j := 3) (v := nI (p - 96)) (by simp) f0
          rw [eB _ (f1 159 (fun z => by have := l1 _ z; omega)).1, (B3 _ _ f1 l1 hw).1]
          obtain ⟨u1, u2⟩ := r_upT h' f1 l1
          have tt : ∀ j, j < p → (f_X12_takes ts (mm_w X.2 0 3 (nI (p - 96)))).1 119 j = Me.1 1 j := fun j hj => by rw [(u2 j (by omega)).1, (u2 j (by omega)).2, t1e]
          obtain ⟨kk, -⟩ := r_r1 (n := p) (by omega) hi0 (B3 _ _ f1 l1 hw).2 u1 (r_ups (ts := ts) h6 f1 l1)
          obtain ⟨k1, k2, k3, k4⟩ := kk ((rOK1_c tt).mpr ok)
          have w2 := (w_f_X12_read_B2 q p (f_X12_takes ts (mm_w X.2 0 3 (nI (p - 96))))).m
          have c96 := ok.1
          generalize hTT : (f_X12_takes ts (mm_w X.2 0 3 (nI (p - 96)))).1 119 = TT at *
          rw [rA_c (S := S) (oe := oe) (fun j hj => tt j (by omega)), rB_c (k := 32) (fun j hj => tt j (by omega))] at k2 k4
          rw [syD_congr (a := sh 80 TT) (b := sh 80 (Me.1 1)) (fun j hj => tt _ (by omega))] at k4
          refine se_row h' hq he wm (by simp <;> omega) (by omega) x2 _ k1 (fun i hi => ?_) k3 w2 (by simp) ⟨2, ini, rf, _, os, oe, _, _, ks, kr, ns, nr, by omega, h2, fun _ => h3 (by omega), fun _ => by show ¬ (1 : Int32) = 0; decide, x3, k4.cx (fun j hj => syP_congr (n := 48) (fun j hj => tt _ (by omega)) j (by omega)) (fun j hj => tt j (by omega))⟩
          rw [k2 i hi]
          exact syP_congr (n := p - 80) (fun j hj => tt _ (by omega)) i (by omega)
        · obtain ⟨x1, x2, x3⟩ := y2 ok
          rw [x1, tell_0]
          dsimp only
          rw [eB _ (f0 159 (fun z => by have := l1 _ z; omega)).1, (B3 _ _ f0 l1 hw).1]
          obtain ⟨u1, u2⟩ := r_upT h' f0 l1
          have tt : ∀ j, j < p → (f_X12_takes ts X.2).1 119 j = Me.1 1 j := fun j hj => by rw [(u2 j (by omega)).1, (u2 j (by omega)).2, t1e]
          obtain ⟨-, kk⟩ := r_r1 (n := p) (by omega) hi0 (B3 _ _ f0 l1 hw).2 u1 (r_ups (ts := ts) h6 f0 l1)
          obtain ⟨k1, k2, k3⟩ := kk (fun z => ok ((rOK1_c tt).mp z))
          have w2 := (w_f_X12_read_B2 q p (f_X12_takes ts X.2)).m
          exact se_none h' hq he wm (by simp <;> omega) (by rw [x2, t2e]) _ k1 k2 w2 (by simp) ⟨1, ini, rf + 1, S, os, oe, xs, xe, ks, kr, ns, nr, by omega, h2, fun _ => h3 (by omega), fun z => by omega, x3, k3⟩
      · obtain ⟨rfl, rfl⟩ := h3 (by omega)
        rw [rM_2 M q p Me hwn stp]
        obtain ⟨y1, y2⟩ := e_r2 (p1 := p) (by omega) (by omega) (by omega) hi (h4 rfl) hVe hEe
        have wm := (w_f_X7_readMessage_2 (49 + 17 * q) p Me).m
        generalize f_X7_readMessage_2 (49 + 17 * q) p Me = X at *
        have f0 : mm_fr (0 :: [43 + 1, 43 + 2, 43 + 4, 43 + 3, 34, 35, 33, 37, 40, 38, 39, 31, 41, 49 + 17 * q + 3, 49 + 17 * q + 5 + 3, 24, 23, 26, 25, 49 + 17 * q + 5 + 1, 14, 16, 17, 18, 19, 20, 22, 21, 15, 28, 29, 30, 49 + 17 * q + 5 + 2, 49 + 17 * q + 5 + 4, 2, 49 + 17 * q, 49 + 17 * q + 14 + 1, 49 + 17 * q + 11 + 1, 49 + 17 * q + 14, 49 + 17 * q + 11, 49 + 17 * q + 6, 49 + 17 * q + 7, 49 + 17 * q + 9]) M X.2 := wm.on (fun a z => List.mem_cons_of_mem _ z) (we.on (by simp) (mm_fr_refl _ _))
        have l1 : ∀ a ∈ 0 :: [43 + 1, 43 + 2, 43 + 4, 43 + 3, 34, 35, 33, 37, 40, 38, 39, 31, 41, 49 + 17 * q + 3, 49 + 17 * q + 5 + 3, 24, 23, 26, 25, 49 + 17 * q + 5 + 1, 14, 16, 17, 18, 19, 20, 22, 21, 15, 28, 29, 30, 49 + 17 * q + 5 + 2, 49 + 17 * q + 5 + 4, 2, 49 + 17 * q, 49 + 17 * q + 14 + 1, 49 + 17 * q + 11 + 1, 49 + 17 * q + 14, 49 + 17 * q + 11, 49 + 17 * q + 6, 49 + 17 * q + 7, 49 + 17 * q + 9], a < 117 := by simp <;> omega
        by_cases ok : rOK2 S oe (Me.1 1) p
        · obtain ⟨x1, x2, x3⟩ := y1 ok
          rw [x1, tell_1 _ _ (nI_neg1 _ (by omega))]
          dsimp only
          have f1 := mm_fr_w (k := 0) (j := 3) (v := nI (p - 64)) (by simp) f0
          rw [eB _ (f1 159 (fun z => by have := l1 _ z; omega)).1, (B3 _ _ f1 l1 hw).1]
          obtain ⟨u1, u2⟩ := r_upT h' f1 l1
          have tt : ∀ j, j < p → (f_X12_takes ts (mm_w X.2 0 3 (nI (p - 64)))).1 119 j = Me.1 1 j := fun j hj => by rw [(u2 j (by omega)).1, (u2 j (by omega)).2, t1e]
          obtain ⟨kk, -⟩ := r_r2 (n := p) (by omega) hi (h4 rfl) (B3 _ _ f1 l1 hw).2 u1 (r_ups (ts := ts) h6 f1 l1)
          obtain ⟨k1, k2, k3, k4⟩ := kk ((rOK2_c tt).mpr ok)
          have w2 := (w_f_X12_read_B2 q p (f_X12_takes ts (mm_w X.2 0 3 (nI (p - 64))))).m
          have c64 := ok.1
          generalize hTT : (f_X12_takes ts (mm_w X.2 0 3 (nI (p - 64)))).1 119 = TT at *
          rw [rB_c (k := 0) (fun j hj => tt j (by omega))] at k2 k4
          rw [syD_congr (a := sh 48 TT) (b := sh 48 (Me.1 1)) (fun j hj => tt _ (by omega))] at k4
          refine se_row h' hq he wm (by simp <;> omega) (by omega) x2 _ k1 (fun i hi => ?_) k3 w2 (by simp) ⟨3, ini, rf, _, os, oe, _, xe, _, _, 0, 0, by omega, h2, fun z => by omega, fun z => by omega, x3, k4.cx (fun j hj => syP_congr (n := 48) (fun j hj => tt _ (by omega)) j (by omega)) (fun _ _ => rfl)⟩
          rw [k2 i hi]
          exact syP_congr (n := p - 48) (fun j hj => tt _ (by omega)) i (by omega)
        · obtain ⟨x1, x2, x3⟩ := y2 ok
          rw [x1, tell_0]
          dsimp only
          rw [eB _ (f0 159 (fun z => by have := l1 _ z; omega)).1, (B3 _ _ f0 l1 hw).1]
          obtain ⟨u1, u2⟩ := r_upT h' f0 l1
          have tt : ∀ j, j < p → (f_X12_takes ts X.2).1 119 j = Me.1 1 j := fun j hj => by rw [(u2 j (by omega)).1, (u2 j (by omega)).2, t1e]
          obtain ⟨-, kk⟩ := r_r2 (n := p) (by omega) hi (h4 rfl) (B3 _ _ f0 l1 hw).2 u1 (r_ups (ts := ts) h6 f0 l1)
          obtain ⟨k1, k2, k3⟩ := kk (fun z => ok ((rOK2_c tt).mp z))
          have w2 := (w_f_X12_read_B2 q p (f_X12_takes ts X.2)).m
          exact se_none h' hq he wm (by simp <;> omega) (by rw [x2, t2e]) _ k1 k2 w2 (by simp) ⟨2, ini, rf + 1, S, os, oe, xs, xe, ks, kr, 0, 0, by omega, h2, fun _ => ⟨rfl, rfl⟩, fun z => h4 z, x3, k3⟩
    · have eM : f_X11_read_B3 M q p Me = (-1, Me) := by
        unfold f_X11_read_B3
        rw [if_neg (fun z => hw (wn.mp z))]
      rw [eM]
      dsimp only
      have hr6 := r_ups (ts := ts) h6 we (by simp)
      have eT : f_X12_read_B3 q p (f_X12_takes ts Me) = (-1, f_X12_takes ts Me) := by
        unfold f_X12_read_B3
        by_cases s3 : st = 3
        · rw [if_pos (by rw [hr6.2.2.1, s3]; rfl)]
        · rw [if_neg (fun y => by rw [hr6.2.2.1] at y; exact s3 ((nI_eq (b := 3) (by omega) (by decide)).mp y))]
          unfold f_X12_read_B2
          rw [if_neg (fun y => hw ⟨by omega, fun z => ((wn_r hr6.2.1 hr6.2.2.1 h1 h2).mpr z) y⟩)]
      rw [eB Me (we 159 (by decide)).1, eT]
      exact se_none (L1 := []) (L2 := []) h' hq he (mm_fr_refl _ _) (by simp) (we 2 (by decide)).1 _ rfl ⟨rfl, rfl, rfl, fun _ _ => rfl, fun _ _ _ _ _ => ⟨rfl, rfl⟩⟩ (mm_fr_refl _ _) (by simp) ⟨st, ini, rf, S, os, oe, xs, xe, ks, kr, ns, nr, h1, h2, h3, h4, hEe, hr6⟩
  · have eA : f_X11_read v1 v2 ts M = (-2, M) := by
      unfold f_X11_read
      rw [if_neg c]
      simp only [ite_self]
    have eB : f_X12_read v1 v2 ts M = (-2, M) := by
      unfold f_X12_read
      rw [if_neg (fun z => c ⟨by rw [← beg_eq h']; exact z.1, by rw [← tape_eq e1]; exact z.2⟩)]
      simp only [ite_self]
    rw [eA]
    dsimp only
    rw [eB]
    exact ⟨rfl, ts, rs, h'⟩
theorem p_send (h : pubR M ts rs) (v1 v2 : Int32) : simR (f_X11_send v1 v2 ts M) (f_X12_send v1 v2 ts (f_X11_send v1 v2 ts M).2) := by
  have h' := h
  obtain ⟨⟨ht, hr⟩, ⟨e1, e2, e3, e4⟩, hta, hre, hke, hta2, ⟨hT, hz⟩, hs⟩ := h
  have ce : (¬ f_X12_in v2 0 900 = 0 ∧ v2 ≤ nI ts) ↔ (¬ (900 : Int32) < v2 ∧ ¬ f_X11_isOnTape v2 M = 0) := by
    rw [← tape_eq e1, in_iff, in_iff, ← Int32.not_lt]
    exact ⟨fun ⟨⟨a, b⟩, c⟩ => ⟨b, a, c⟩, fun ⟨a, b, c⟩ => ⟨⟨b, a⟩, c⟩⟩
  by_cases c : ¬ f_X11_hasBegun v1 M = 0 ∧ ¬ (900 : Int32) < v2 ∧ ¬ f_X11_isOnTape v2 M = 0
  · obtain ⟨g1, g2⟩ := g_isOnTape ht e1 c.2.2
    have h900 : v2.toNatClampNeg ≤ 900 := by
      have : ¬ (900 : Int32) < nI v2.toNatClampNeg := by rw [← g1]; exact c.2.1
      rcases Nat.lt_or_ge 900 v2.toNatClampNeg with z | z
      · exact absurd ((nI_ltI (a := 900) (by decide) (by omega)).mpr z) this
      · exact z
    obtain ⟨hq, st, ini, rf, S, os, oe, xs, xe, ks, kr, ns, nr, h1, h2, h3, h4, h5, h6⟩ := beg_get h' c.1
    have eA : f_X11_send v1 v2 ts M = f_X11_send_B1 v1.toNatClampNeg v2.toNatClampNeg (f_X11_emptyTape M) := by
      unfold f_X11_send
      rw [if_pos c]
    have eB : ∀ N, N.1 159 = M.1 159 → f_X12_send v1 v2 ts N = f_X12_send_B4 v1.toNatClampNeg v2.toNatClampNeg (f_X12_takes ts N) := fun N hN => by
      unfold f_X12_send
      rw [if_pos ⟨by rw [isS_fr hN, beg_eq h']; exact c.1, ce.mpr c.2⟩]
    rw [eA]
    generalize v1.toNatClampNeg = q at *
    generalize v2.toNatClampNeg = p at *
    obtain ⟨Me, he⟩ : ∃ Me, Me = f_X11_emptyTape M := ⟨_, rfl⟩
    rw [← he]
    have we : mm_fr [0] M Me := by rw [he]; exact w_f_X11_emptyTape M
    have hEe := h5.keep (N := Me) (fun k z1 z2 => we k (by simp <;> omega))
    have t1e : Me.1 1 = M.1 1 := (we 1 (by decide)).1
    have ov := ov_e hEe.2.1 h1
    by_cases s3 : st = 3
    · subst s3
      have eM : f_X11_send_B1 q p Me = f_X11_tell (f_X7_sendMessage (49 + 17 * q) p Me).1 (f_X7_sendMessage (49 + 17 * q) p Me).2 := by
        unfold f_X11_send_B1
        rw [if_pos (ov.mpr rfl)]
      rw [eM]
      obtain ⟨y1, y2, y3⟩ := e_snd (p1 := p) (by omega) (by omega) h900 hEe
      have wm := (w_f_X7_sendMessage (49 + 17 * q) p Me).m
      generalize f_X7_sendMessage (49 + 17 * q) p Me = X at *
      rw [y1, tell_1 _ _ (nI_neg1 _ (by omega))]
      dsimp only
      have f1 : mm_fr (0 :: [34, 35, 33, 37, 40, 38, 39, 31, 2, 41, 49 + 17 * q + 11]) M (mm_w X.2 0 3 (nI (p + 16))) := mm_fr_w (by simp) (wm.on (fun a z => List.mem_cons_of_mem _ z) (we.on (by simp) (mm_fr_refl _ _)))
      have l1 : ∀ a ∈ 0 :: [34, 35, 33, 37, 40, 38, 39, 31, 2, 41, 49 + 17 * q + 11], a < 117 := by simp <;> omega
      rw [eB _ (f1 159 (fun z => by have := l1 _ z; omega)).1]
      obtain ⟨u1, u2⟩ := r_upT h' f1 l1
      have tt : ∀ j, j < p → (f_X12_takes ts (mm_w X.2 0 3 (nI (p + 16)))).1 119 j = Me.1 1 j := fun j hj => by rw [(u2 j (by omega)).1, (u2 j (by omega)).2, t1e]
      obtain ⟨k1, k2, k3, k4⟩ := r_snd (p := p) h900 (r_ups (ts := ts) h6 f1 l1)
      have w2 := (w_f_X12_send_B4 q p (f_X12_takes ts (mm_w X.2 0 3 (nI (p + 16))))).m
      exact se_row h' hq he wm (by simp <;> omega) (by omega) y2 _ k1 (fun i hi => by rw [k2 i hi]; exact sO_c tt i) k3 w2 (by simp) ⟨3, ini, rf, S, os, oe, xs, xe, ks, kr, ns + 1, nr, by omega, h2, fun z => by omega, fun z => by omega, y3, k4⟩
    · have eM : f_X11_send_B1 q p Me = (-1, Me) := by
        unfold f_X11_send_B1
        rw [if_neg (fun z => s3 (ov.mp z))]
      rw [eM]
      dsimp only
      have hr6 := r_ups (ts := ts) h6 we (by simp)
      have eT : f_X12_send_B4 q p (f_X12_takes ts Me) = (-1, f_X12_takes ts Me) := by
        unfold f_X12_send_B4
        rw [if_neg (fun z => s3 ((ov_r hr6.2.2.1 h1).mp z))]
      rw [eB Me (we 159 (by decide)).1, eT]
      exact se_none (L1 := []) (L2 := []) h' hq he (mm_fr_refl _ _) (by simp) (we 2 (by decide)).1 _ rfl ⟨rfl, rfl, rfl, fun _ _ => rfl, fun _ _ _ _ _ => ⟨rfl, rfl⟩⟩ (mm_fr_refl _ _) (by simp) ⟨st, ini, rf, S, os, oe, xs, xe, ks, kr, ns, nr, h1, h2, h3, h4, hEe, hr6⟩
  · have eA : f_X11_send v1 v2 ts M = (-2, M) := by
      unfold f_X11_send
      rw [if_neg c]
      simp only [ite_self]
    have eB : f_X12_send v1 v2 ts M = (-2, M) := by
      unfold f_X12_send
      rw [if_neg (fun z => c ⟨by rw [← beg_eq h']; exact z.1, ce.mp z.2⟩)]
      simp only [ite_self]
    rw [eA]
    dsimp only
    rw [eB]
    exact ⟨rfl, ts, rs, h'⟩
theorem p_receive (h : pubR M ts rs) (v1 v2 : Int32) : simR (f_X11_receive v1 v2 ts M) (f_X12_receive v1 v2 ts (f_X11_receive v1 v2 ts M).2) := by
  have h' := h
  obtain ⟨⟨ht, hr⟩, ⟨e1, e2, e3, e4⟩, hta, hre, hke, hta2, ⟨hT, hz⟩, hs⟩ := h
  by_cases c : ¬ f_X11_hasBegun v1 M = 0 ∧ ¬ f_X11_isOnTape v2 M = 0
  · obtain ⟨g1, g2⟩ := g_isOnTape ht e1 c.2
    obtain ⟨hq, st, ini, rf, S, os, oe, xs, xe, ks, kr, ns, nr, h1, h2, h3, h4, h5, h6⟩ := beg_get h' c.1
    have eA : f_X11_receive v1 v2 ts M = f_X11_receive_B1 v1.toNatClampNeg v2.toNatClampNeg (f_X11_emptyTape M) := by
      unfold f_X11_receive
      rw [if_pos c]
    have eB : ∀ N, N.1 159 = M.1 159 → f_X12_receive v1 v2 ts N = f_X12_receive_B6 v1.toNatClampNeg v2.toNatClampNeg (f_X12_takes ts N) := fun N hN => by
      unfold f_X12_receive
      rw [if_pos ⟨by rw [isS_fr hN, beg_eq h']; exact c.1, by rw [tape_eq e1]; exact c.2⟩]
    rw [eA]
    generalize v1.toNatClampNeg = q at *
    generalize v2.toNatClampNeg = p at *
    obtain ⟨Me, he⟩ : ∃ Me, Me = f_X11_emptyTape M := ⟨_, rfl⟩
    rw [← he]
    have we : mm_fr [0] M Me := by rw [he]; exact w_f_X11_emptyTape M
    have hEe := h5.keep (N := Me) (fun k z1 z2 => we k (by simp <;> omega))
    have t1e : Me.1 1 = M.1 1 := (we 1 (by decide)).1
    have t2e : Me.1 2 = M.1 2 := (we 2 (by decide)).1
    have ov := ov_e hEe.2.1 h1
    by_cases s3 : st = 3
    · subst s3
      have eM : f_X11_receive_B1 q p Me = f_X11_tell (f_X7_receiveMessage (49 + 17 * q) p Me).1 (f_X7_receiveMessage (49 + 17 * q) p Me).2 := by
        unfold f_X11_receive_B1
        rw [if_pos (ov.mpr rfl)]
      rw [eM]
      obtain ⟨y1, y2⟩ := e_rcv (p1 := p) (by omega) (by omega) (by omega) hEe
      have wm := (w_f_X7_receiveMessage (49 + 17 * q) p Me).m
      generalize f_X7_receiveMessage (49 + 17 * q) p Me = X at *
      have f0 : mm_fr (0 :: [34, 35, 33, 37, 40, 38, 39, 31, 41, 2, 49 + 17 * q + 14, 49 + 17 * q]) M X.2 := wm.on (fun a z => List.mem_cons_of_mem _ z) (we.on (by simp) (mm_fr_refl _ _))
      have l1 : ∀ a ∈ 0 :: [34, 35, 33, 37, 40, 38, 39, 31, 41, 2, 49 + 17 * q + 14, 49 + 17 * q], a < 117 := by simp <;> omega
      by_cases ok : rcOK kr nr (Me.1 1) p
      · obtain ⟨x1, x2, x3⟩ := y1 ok
        rw [x1, tell_1 _ _ (nI_neg1 _ (by omega))]
        dsimp only
        have f1 := mm_fr_w (k := 0) (j := 3) (v := nI (p - 16)) (by simp) f0
        rw [eB _ (f1 159 (fun z => by have := l1 _ z; omega)).1]
        obtain ⟨u1, u2⟩ := r_upT h' f1 l1
        have tt : ∀ j, j < p → (f_X12_takes ts (mm_w X.2 0 3 (nI (p - 16)))).1 119 j = Me.1 1 j := fun j hj => by rw [(u2 j (by omega)).1, (u2 j (by omega)).2, t1e]
        obtain ⟨kk, -⟩ := r_rcv (n := p) (by omega) (r_ups (ts := ts) h6 f1 l1)
        obtain ⟨k1, k2, k3, k4⟩ := kk ((rcOK_c tt).mpr ok)
        have w2 := (w_f_X12_receive_B6 q p (f_X12_takes ts (mm_w X.2 0 3 (nI (p - 16))))).m
        exact se_row h' hq he wm (by simp <;> omega) (by omega) x2 _ k1 (fun i hi => by rw [k2 i hi]; exact aeX_congr (fun _ _ => rfl) (tt i (by omega))) k3 w2 (by simp) ⟨3, ini, rf, S, os, oe, xs, xe, ks, kr, ns, nr + 1, by omega, h2, fun z => by omega, fun z => by omega, x3, k4⟩
      · obtain ⟨x1, x2, x3⟩ := y2 ok
        rw [x1, tell_0]
        dsimp only
        rw [eB _ (f0 159 (fun z => by have := l1 _ z; omega)).1]
        obtain ⟨u1, u2⟩ := r_upT h' f0 l1
        have tt : ∀ j, j < p → (f_X12_takes ts X.2).1 119 j = Me.1 1 j := fun j hj => by rw [(u2 j (by omega)).1, (u2 j (by omega)).2, t1e]
        obtain ⟨-, kk⟩ := r_rcv (n := p) (by omega) (r_ups (ts := ts) h6 f0 l1)
        obtain ⟨k1, k2, k3⟩ := kk (fun z => ok ((rcOK_c tt).mp z))
        have w2 := (w_f_X12_receive_B6 q p (f_X12_takes ts X.2)).m
        exact se_none h' hq he wm (by simp <;> omega) (by rw [x2, t2e]) _ k1 k2 w2 (by simp) ⟨3, ini, rf + 1, S, os, oe, xs, xe, ks, kr, ns, nr, by omega, h2, fun z => by omega, fun z => by omega, x3, k3⟩
    · have eM : f_X11_receive_B1 q p Me = (-1, Me) := by
        unfold f_X11_receive_B1
        rw [if_neg (fun z => s3 (ov.mp z))]
      rw [eM]
      dsimp only
      have hr6 := r_ups (ts := ts) h6 we (by simp)
      have eT : f_X12_receive_B6 q p (f_X12_takes ts Me) = (-1, f_X12_takes ts Me) := by
        unfold f_X12_receive_B6
        rw [if_neg (fun z => s3 ((ov_r hr6.2.2.1 h1).mp z))]
      rw [eB Me (we 159 (by decide)).1, eT]
      exact se_none (L1 := []) (L2 := []) h' hq he (mm_fr_refl _ _) (by simp) (we 2 (by decide)).1 _ rfl ⟨rfl, rfl, rfl, fun _ _ => rfl, fun _ _ _ _ _ => ⟨rfl, rfl⟩⟩ (mm_fr_refl _ _) (by simp) ⟨st, ini, rf, S, os, oe, xs, xe, ks, kr, ns, nr, h1, h2, h3, h4, hEe, hr6⟩
  · have eA : f_X11_receive v1 v2 ts M = (-2, M) := by
      unfold f_X11_receive
      rw [if_neg c]
      simp only [ite_self]
    have eB : f_X12_receive v1 v2 ts M = (-2, M) := by
      unfold f_X12_receive
      rw [if_neg (fun z => c ⟨by rw [← beg_eq h']; exact z.1, by rw [← tape_eq e1]; exact z.2⟩)]
      simp only [ite_self]
    rw [eA]
    dsimp only
    rw [eB]
    exact ⟨rfl, ts, rs, h'⟩
theorem p_rekey (h : pubR M ts rs) (v1 v2 : Int32) (hb : v2 = 0 ∨ v2 = 1) : simR (f_X11_rekey v1 v2 M) (f_X12_rekey v1 v2 (f_X11_rekey v1 v2 M).2) := by
  have h' := h
  obtain ⟨⟨ht, hr⟩, ⟨e1, e2, e3, e4⟩, hta, hre, hke, hta2, ⟨hT, hz⟩, hs⟩ := h
  by_cases c : ¬ f_X11_hasBegun v1 M = 0
  · obtain ⟨hq, st, ini, rf, S, os, oe, xs, xe, ks, kr, ns, nr, h1, h2, h3, h4, h5, h6⟩ := beg_get h' c
    have eA : f_X11_rekey v1 v2 M = f_X11_rekey_B1 v2 M v1.toNatClampNeg := by
      unfold f_X11_rekey
      rw [if_pos c]
    have eB : ∀ N, N.1 159 = M.1 159 → f_X12_rekey v1 v2 N = f_X12_rekey_B2 v2 N v1.toNatClampNeg := fun N hN => by
      unfold f_X12_rekey
      rw [if_pos (by rw [isS_fr hN, beg_eq h']; exact c)]
    rw [eA]
    generalize v1.toNatClampNeg = q at *
    have ov := ov_e h5.2.1 h1
    by_cases s3 : st = 3
    · subst s3
      have eM : f_X11_rekey_B1 v2 M q = (1, f_X7_renewKey (49 + 17 * q) v2 M) := by
        unfold f_X11_rekey_B1
        rw [if_pos (ov.mpr rfl)]
      rw [eM]
      dsimp only
      have wm := w_f_X7_renewKey (49 + 17 * q) v2 M
      have l1 : ∀ a ∈ [34, 35, 33, 37, 40, 38, 39, 31, 49 + 17 * q + 14 + 2, 41, 49 + 17 * q + 15, 49 + 17 * q + 11 + 2, 49 + 17 * q + 12], a ≠ 0 ∧ a ≠ 1 ∧ a ≠ 2 ∧ (a < 4 ∨ 12 ≤ a) ∧ (a < 49 ∨ (49 + 17 * q ≤ a ∧ a ≤ 49 + 17 * q + 16)) := by simp <;> omega
      have fin : ∀ N, mm_fr [34, 35, 33, 37, 40, 38, 39, 31, 49 + 17 * q + 14 + 2, 41, 49 + 17 * q + 15, 49 + 17 * q + 11 + 2, 49 + 17 * q + 12] M N → ∀ R : Int32 × mm_M, R.1 = 1 → tf q N R.2 → mm_fr [147, 149, 148, 157] N R.2 → sesP N R.2 q → simR (1, N) R := fun N w1 R r1 r2 w2 r3 => by
        obtain ⟨k1, k2, k0, k3, k4⟩ := r2
        refine ⟨r1.symm, ts, rs, se_fin h' hq w1 (fun a z => by have := l1 a z; omega) w2 (by simp) k3 k4 (Nat.le_refl _) hr ?_ ?_ ?_ ?_ (fun j hj => ?_) ((hz.fr w1 (fun z => by have := l1 _ z; omega)).fr w2 (by decide)) r3⟩
        · rw [(w1 0 (fun z => (l1 _ z).1 rfl)).1]; exact e1
        · rw [k1, (w1 117 (fun z => by have := l1 _ z; omega)).1]; exact e2
        · rw [(w1 0 (fun z => (l1 _ z).1 rfl)).1]; exact e3
        · rw [k2, (w1 117 (fun z => by have := l1 _ z; omega)).1]; exact e4
        · rw [k0, (w1 121 (fun z => by have := l1 _ z; omega)).1, (w1 2 (fun z => (l1 _ z).2.2.1 rfl)).1]; exact hre j hj
      rcases hb with hv | hv
      · have y := e_rkR (M := M) (by omega) (by omega) v2 hv hta2.2 h5
        generalize f_X7_renewKey (49 + 17 * q) v2 M = N at *
        rw [eB N (wm 159 (fun z => by have := l1 _ z; omega)).1]
        obtain ⟨k1, k2, k3⟩ := r_rkR hv h2 (h6.fr wm (fun a z => Or.inl (by have := l1 a z; omega)))
        exact fin N wm _ k1 k2 (w_f_X12_rekey_B2 v2 N q).m ⟨3, ini, rf, S, os, oe, xs, xe, ks, _, ns, nr, by omega, h2, fun z => by omega, fun z => by omega, y, k3⟩
      · have y := e_rkS (M := M) (by omega) (by omega) v2 (by rw [hv]; decide) hta2.2 h5
        generalize f_X7_renewKey (49 + 17 * q) v2 M = N at *
        rw [eB N (wm 159 (fun z => by have := l1 _ z; omega)).1]
        obtain ⟨k1, k2, k3⟩ := r_rkS hv h2 (h6.fr wm (fun a z => Or.inl (by have := l1 a z; omega)))
        exact fin N wm _ k1 k2 (w_f_X12_rekey_B2 v2 N q).m ⟨3, ini, rf, S, os, oe, xs, xe, _, kr, ns, nr, by omega, h2, fun z => by omega, fun z => by omega, y, k3⟩
    · have eM : f_X11_rekey_B1 v2 M q = (0, M) := by
        unfold f_X11_rekey_B1
        rw [if_neg (fun z => s3 (ov.mp z))]
      rw [eM]
      dsimp only
      have eT : f_X12_rekey_B2 v2 M q = (0, M) := by
        unfold f_X12_rekey_B2
        rw [if_neg (fun z => s3 ((ov_r h6.2.2.1 h1).mp z))]
      rw [eB M rfl, eT]
      exact ⟨rfl, ts, rs, h'⟩
  · have eA : f_X11_rekey v1 v2 M = (0, M) := by
      unfold f_X11_rekey
      rw [if_neg c]
    have eB : f_X12_rekey v1 v2 M = (0, M) := by
      unfold f_X12_rekey
      rw [if_neg (fun z => c (by rw [← beg_eq h']; exact z))]
    rw [eA]
    dsimp only
    rw [eB]
    exact ⟨rfl, ts, rs, h'⟩
theorem p_start (h : pubR M ts rs) (v1 v2 v3 v4 v5 : Int32) (hb : v2 = 0 ∨ v2 = 1) : simR (f_X11_start v1 v2 v3 v4 v5 ts M) (f_X12_start_ v1 v2 v3 v4 v5 ts (f_X11_start v1 v2 v3 v4 v5 ts M).2) := by
  have h' := h
  obtain ⟨⟨ht, hr⟩, ⟨e1, e2, e3, e4⟩, hta, hre, hke, hta2, ⟨hT, hz⟩, hs⟩ := h
  by_cases c : ¬ f_X11_isSession v1 = 0 ∧ ¬ f_X11_isKey v3 = 0 ∧ ¬ f_X11_isKey v4 = 0 ∧ ¬ f_X11_isOnTape v5 M = 0
  · have hq := (g_isSession c.1).2
    have hf := (g_isKey c.2.1).2
    have hp := (g_isKey c.2.2.1).2
    have hn := (g_isOnTape ht e1 c.2.2.2).2
    have eA : f_X11_start v1 v2 v3 v4 v5 ts M = (1, f_X7_begin (49 + 17 * v1.toNatClampNeg) v2 (4 + v3.toNatClampNeg) (4 + v4.toNatClampNeg) v5.toNatClampNeg (f_X11_emptyTape M)) := by
      unfold f_X11_start
      rw [if_pos c]
    have eB : ∀ N, f_X12_start_ v1 v2 v3 v4 v5 ts N = (1, stF v1.toNatClampNeg v2 v3.toNatClampNeg v4.toNatClampNeg v5.toNatClampNeg (f_X12_takes ts N)) := fun N => by
      unfold f_X12_start_
      rw [if_pos ⟨by rw [ses_eq]; exact c.1, by rw [key_eq]; exact c.2.1, by rw [key_eq]; exact c.2.2.1, by rw [tape_eq e1]; exact c.2.2.2⟩]
      rfl
    rw [eA]
    dsimp only
    rw [eB]
    generalize v1.toNatClampNeg = q at *
    generalize v3.toNatClampNeg = f at *
    generalize v4.toNatClampNeg = p at *
    generalize v5.toNatClampNeg = n at *
    obtain ⟨Me, he⟩ : ∃ Me, Me = f_X11_emptyTape M := ⟨_, rfl⟩
    rw [← he]
    have we : mm_fr [0] M Me := by rw [he]; exact w_f_X11_emptyTape M
    have ee : Me.1 0 1 = nI 0 := by rw [he]; exact rd_wS _ _ _ _
    have e03 : Me.1 0 3 = M.1 0 3 := by rw [he]; exact rd_wN _ _ _ _ (Or.inr (by decide))
    have hVe := hta2.1.fr we (by simp)
    have y := e_bgn (49 + 17 * q) v2 (4 + f) (4 + p) n (by omega) (by omega) (by omega) (by omega) (by omega) Me hVe nine nine nine nine
    have wm := w_f_X7_begin (49 + 17 * q) v2 (4 + f) (4 + p) n Me
    generalize f_X7_begin (49 + 17 * q) v2 (4 + f) (4 + p) n Me = N at *
    rw [(we (4 + f) (by simp <;> omega)).1, (we (4 + p) (by simp <;> omega)).1, (we 1 (by decide)).1] at y
    have f1 : mm_fr (0 :: [49 + 17 * q, 49 + 17 * q + 1, 49 + 17 * q + 2, 49 + 17 * q + 11, 49 + 17 * q + 14, 49 + 17 * q + 5 + 3, 49 + 17 * q + 6, 49 + 17 * q + 7, 24, 23, 26, 25, 49 + 17 * q + 5 + 1]) M N := wm.on (fun a z => List.mem_cons_of_mem _ z) (we.on (by simp) (mm_fr_refl _ _))
    have l1 : ∀ a ∈ 0 :: [49 + 17 * q, 49 + 17 * q + 1, 49 + 17 * q + 2, 49 + 17 * q + 11, 49 + 17 * q + 14, 49 + 17 * q + 5 + 3, 49 + 17 * q + 6, 49 + 17 * q + 7, 24, 23, 26, 25, 49 + 17 * q + 5 + 1], a ≠ 1 ∧ a ≠ 2 ∧ (a < 4 ∨ 12 ≤ a) ∧ (a < 49 ∨ (49 + 17 * q ≤ a ∧ a ≤ 49 + 17 * q + 16)) := by simp <;> omega
    have n0 : N.1 0 = Me.1 0 := (wm 0 (by simp <;> omega)).1
    obtain ⟨u1, u2⟩ := r_upT h' f1 (fun a z => by have := l1 a z; omega)
    obtain ⟨t1, t2, t3⟩ := rd_takes ts N
    have wt := w_f_X12_takes ts N
    generalize f_X12_takes ts N = T at *
    obtain ⟨r1, r2, r3, r4⟩ := r_bgn q v2 f p n (by omega) T u1 ((hz.fr f1 (fun z => by have := l1 _ z; omega)).fr wt (by decide)) nine nine nine nine
    rw [syH_congr (m := fun j => ub (T.1 119 j)) (m' := fun j => ub (M.1 1 j)) (fun j hj => by rw [(u2 j (by omega)).1, (u2 j (by omega)).2])] at r1
    have r1' := r1.co (os' := M.1 (4 + f)) (oe' := M.1 (4 + p)) (fun j hj => by rw [(wt 122 (by decide)).1, (f1 122 (fun z => by have := l1 _ z; omega)).1]; exact hke f hf j hj) (fun j hj => by rw [(wt 122 (by decide)).1, (f1 122 (fun z => by have := l1 _ z; omega)).1]; exact hke p hp j hj)
    refine ⟨rfl, 0, rs, se_fin h' hq f1 (fun a z => by have := l1 a z; omega) (r4.on (L := 119 :: 117 :: [159, 160, 161, 162, 163, 164, 165, 166, 167, 168, 117, 128, 129, 126, 127, 125, 157, 146, 144, 132, 134, 133, 136, 140, 142, 135, 143, 139, 145, 141, 137, 138]) (fun a z => by simp at z ⊢; omega) (wt.on (by simp) (mm_fr_refl _ _))) (by simp) (fun i z => by show (stF q v2 f p n T).1 157 i = _; rw [r2.1 i z, (wt 157 (by decide)).1]) (fun k i z1 z2 z3 => ?_) (Nat.zero_le _) hr (by rw [n0]; exact ee) ?_ (by rw [n0, e03]; exact e3) ?_ (fun j hj => ?_) r3 ⟨0, v2, 0, _, _, _, _, _, _, _, 0, 0, by omega, hb, fun _ => ⟨rfl, rfl⟩, fun z => by omega, y, r1'⟩⟩
    · show (stF q v2 f p n T).1 k i = _ ∧ (stF q v2 f p n T).2 k i = _
      rw [(r2.2.1 k i z1 z2 z3).1, (r2.2.1 k i z1 z2 z3).2, (wt k (by simp <;> omega)).1, (wt k (by simp <;> omega)).2]; exact ⟨rfl, rfl⟩
    · show (stF q v2 f p n T).1 117 4 = _
      rw [r2.2.2 4 (by decide)]; exact t2
    · show (stF q v2 f p n T).1 117 5 = _
      rw [r2.2.2 5 (by decide), t3, (f1 117 (fun z => by have := l1 _ z; omega)).1]; exact e4
    · show (stF q v2 f p n T).1 121 j = _
      rw [(r4 121 (by decide)).1, (wt 121 (by decide)).1, (f1 121 (fun z => by have := l1 _ z; omega)).1, (f1 2 (fun z => by have := l1 _ z; omega)).1]; exact hre j hj
  · have eA : f_X11_start v1 v2 v3 v4 v5 ts M = (0, M) := by
      unfold f_X11_start
      rw [if_neg c]
      simp only [ite_self]
    have eB : f_X12_start_ v1 v2 v3 v4 v5 ts M = (0, M) := by
      unfold f_X12_start_
      rw [if_neg (fun z => c ⟨by rw [← ses_eq]; exact z.1, by rw [← key_eq]; exact z.2.1, by rw [← key_eq]; exact z.2.2.1, by rw [← tape_eq e1]; exact z.2.2.2⟩)]
      simp only [ite_self]
    rw [eA]
    dsimp only
    rw [eB]
    exact ⟨rfl, ts, rs, h'⟩
end PS2
