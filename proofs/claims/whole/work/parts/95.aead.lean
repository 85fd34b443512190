/-! both sides: sealing, opening, and what a call only tells -/
theorem in_iff (v a b : Int32) : ¬ f_X12_in v a b = 0 ↔ ¬ v < a ∧ ¬ b < v := by
  unfold f_X12_in
  by_cases c : v < a
  · rw [if_pos c]; exact ⟨fun q => absurd rfl q, fun q => absurd c q.1⟩
  · rw [if_neg c]
    by_cases d : b < v
    · rw [if_pos d]; exact ⟨fun q => absurd rfl q, fun q => absurd d q.2⟩
    · rw [if_neg d]; exact ⟨fun _ => ⟨c, d⟩, fun _ => by decide⟩
theorem aot_iff (v u : Int32) (M : mm_M) : ¬ f_X11_areOnTape v u M = 0 ↔ ¬ f_X11_isOnTape v M = 0 ∧ ¬ u < 0 ∧ ¬ (M.1 0 1 - v) < u := by
  unfold f_X11_areOnTape
  by_cases c : f_X11_isOnTape v M = 0
  · rw [if_pos c]; exact ⟨fun q => absurd rfl q, fun q => absurd c q.1⟩
  · rw [if_neg c]
    by_cases d : u < 0
    · rw [if_pos d]; exact ⟨fun q => absurd rfl q, fun q => absurd d q.2.1⟩
    · rw [if_neg d]
      by_cases e : (M.1 0 1 - v) < u
      · rw [if_pos e]; exact ⟨fun q => absurd rfl q, fun q => absurd e q.2.2⟩
      · rw [if_neg e]; exact ⟨fun _ => ⟨c, d, e⟩, fun _ => by decide⟩
section PA
variable {M : mm_M} {ts rs : Nat}
theorem p_none {M1 G : mm_M} (h : pubR M ts rs) {L1 L2 : List Nat} (w1 : mm_fr L1 M M1) (l1 : ∀ a ∈ L1, a < 49 ∧ (a < 4 ∨ 12 ≤ a) ∧ a ≠ 1) (w2 : mm_fr L2 M1 G) (l2 : ∀ a ∈ L2, 117 ≤ a ∧ a < 157 ∧ a ≠ 118 ∧ a ≠ 121 ∧ a ≠ 122 ∧ a ≠ 123 ∧ a ≠ 124 ∧ a ≠ 146) (h1 : M1.1 0 1 = nI 0) (h2 : G.1 117 4 = nI 0) (h3 : M1.1 0 3 = M.1 0 3) (h4 : G.1 117 5 = M1.1 117 5) (h5 : M1.1 2 = M.1 2) : simR (-1, M1) (-1, G) := by
  obtain ⟨⟨ht, hr⟩, ⟨e1, e2, e3, e4⟩, hta, hre, hke, hta2, ⟨hT, hz⟩, hs⟩ := id h
  refine ⟨rfl, 0, rs, pr_fin h w1 (fun a q => by have := l1 a q; omega) w2 (fun a q => by have := l2 a q; omega) (by omega) hr h1 h2 (by rw [h3]; exact e3) ?_ (fun j hj => by omega) (fun j hj => ?_) ((hz.fr w1 (fun q => by have := l1 _ q; omega)).fr w2 (fun q => by have := l2 _ q; omega))⟩
  · show G.1 117 5 = _
    rw [h4, (w1 117 (fun q => by have := l1 _ q; omega)).1]; exact e4
  · show G.1 121 j = _
    rw [(w2 121 (fun q => by have := l2 _ q; omega)).1, (w1 121 (fun q => by have := l1 _ q; omega)).1, h5]; exact hre j hj
theorem p_seal (h : pubR M ts rs) (v1 : Int32) (u : Int64) (v2 v3 : Int32) : simR (f_X11_seal v1 u v2 v3 ts M) (f_X12_seal v1 u v2 v3 ts (f_X11_seal v1 u v2 v3 ts M).2) := by
  have h' := h
  obtain ⟨⟨ht, hr⟩, ⟨e1, e2, e3, e4⟩, hta, hre, hke, hta2, ⟨hT, hz⟩, hs⟩ := h
  have ce : (¬ f_X12_isKey v1 = 0 ∧ ¬ f_X12_in v2 0 (nI ts) = 0 ∧ ¬ f_X12_in v3 0 984 = 0 ∧ v3 ≤ nI ts - v2) ↔ (¬ f_X11_isKey v1 = 0 ∧ ¬ (984 : Int32) < v3 ∧ ¬ f_X11_areOnTape v2 v3 M = 0) := by
    rw [key_eq, tape_eq e1, in_iff, aot_iff, e1, ← Int32.not_lt]
    exact ⟨fun ⟨a, b, ⟨c1, c2⟩, d⟩ => ⟨a, c2, b, c1, d⟩, fun ⟨a, b, c, d, e⟩ => ⟨a, c, ⟨d, b⟩, e⟩⟩
  by_cases c : ¬ f_X11_isKey v1 = 0 ∧ ¬ (984 : Int32) < v3 ∧ ¬ f_X11_areOnTape v2 v3 M = 0
  · have hk := (g_isKey c.1).2
    obtain ⟨⟨g1, g2⟩, g3, g4⟩ := g_areOnTape ht e1 c.2.2
    have h984 : v3.toNatClampNeg ≤ 984 := by
      have : ¬ (984 : Int32) < nI v3.toNatClampNeg := by rw [← g3]; exact c.2.1
      rcases Nat.lt_or_ge 984 v3.toNatClampNeg with z | z
      · exact absurd ((nI_ltI (a := 984) (by decide) (by omega)).mpr z) this
      · exact z
    have w1 := (w_f_X11_seal v1 u v2 v3 ts M).m
    have eA : f_X11_seal v1 u v2 v3 ts M = f_X11_tell (nI (v3.toNatClampNeg + 16)) (f_X0_encrypt 1 v2.toNatClampNeg v3.toNatClampNeg 2 0 (f_X0_associate 1 v2.toNatClampNeg (f_X0_begin (4 + v1.toNatClampNeg) u (f_X11_emptyTape M)))) := by
      unfold f_X11_seal
      rw [if_pos c]
    have eB : ∀ N, f_X12_seal v1 u v2 v3 ts N = f_X12_tells 120 (v3.toNatClampNeg + 16) (f_X12_seals 122 (32 * v1.toNatClampNeg) u 119 0 v2.toNatClampNeg 119 v2.toNatClampNeg v3.toNatClampNeg 120 0 (f_X12_takes ts N)) := fun N => by
      unfold f_X12_seal
      rw [if_pos (ce.mpr c)]
    rw [eA, tell_1 _ _ (nI_neg1 _ (by omega))] at w1 ⊢
    rw [eB]
    dsimp only at *
    generalize v1.toNatClampNeg = k at *
    generalize v2.toNatClampNeg = a at *
    generalize v3.toNatClampNeg = n at *
    have we : mm_fr [0] M (f_X11_emptyTape M) := w_f_X11_emptyTape M
    have ee : (f_X11_emptyTape M).1 0 1 = nI 0 := rd_wS _ _ _ _
    generalize f_X11_emptyTape M = Me at *
    obtain ⟨s1, s2, -⟩ := e_seal (4 + k) 1 a 1 a n 2 0 u Me (by omega) (by omega) (by omega) (by omega) (by omega) (by omega) (by omega)
    have wf : mm_fr [34, 35, 33, 37, 40, 38, 39, 31, 2, 41] Me (f_X0_encrypt 1 a n 2 0 (f_X0_associate 1 a (f_X0_begin (4 + k) u Me))) := (w_f_X0_encrypt _ _ _ _ _ _).on (by simp) ((w_f_X0_associate _ _ _).on (by simp) ((w_f_X0_begin _ _ _).on (by simp) (mm_fr_refl _ _)))
    generalize f_X0_encrypt 1 a n 2 0 (f_X0_associate 1 a (f_X0_begin (4 + k) u Me)) = Mf at *
    rw [(we (4 + k) (by simp <;> omega)).1, (we 1 (by decide)).1] at s1 s2
    simp only [Nat.zero_add] at s1 s2
    have r0 : (mm_w Mf 0 3 (nI (n + 16))).1 0 1 = nI 0 := by rw [rd_wN _ _ _ _ (Or.inr (by decide)), (wf 0 (by decide)).1]; exact ee
    have r3 : (mm_w Mf 0 3 (nI (n + 16))).1 0 3 = nI (n + 16) := rd_wS _ _ _ _
    have r2 : ∀ j, j < n + 16 → (mm_w Mf 0 3 (nI (n + 16))).1 2 j = if j < n then aeX (M.1 (4 + k)) u (fun j => M.1 1 (a + j)) j else aeT (M.1 (4 + k)) u (fun j => ub (M.1 1 j)) a (fun j => ub (aeX (M.1 (4 + k)) u (fun j => M.1 1 (a + j)) j)) n (j - n) := fun j hj => by
      rw [rd_wN _ _ _ _ (Or.inl (by decide))]
      by_cases d : j < n
      · rw [if_pos d]; exact s1 j d
      · rw [if_neg d]
        have := s2 (j - n) (by omega)
        rw [show n + (j - n) = j from by omega] at this
        exact this
    generalize mm_w Mf 0 3 (nI (n + 16)) = M1 at *
    obtain ⟨t1, t2, t3⟩ := rd_takes ts M1
    have wt := w_f_X12_takes ts M1
    generalize f_X12_takes ts M1 = T at *
    obtain ⟨p1, p2, -⟩ := r_seal 122 (32 * k) 119 0 a 119 a n 120 0 u T (by omega) (by omega) (by omega) (by omega) (by omega) (by omega) (by omega) (by omega) (by omega)
    have wu := w_f_X12_seals 122 (32 * k) u 119 0 a 119 a n 120 0 T
    generalize f_X12_seals 122 (32 * k) u 119 0 a 119 a n 120 0 T = G at *
    have w2 : mm_fr [119, 117, 120, 147, 149, 148, 155, 151, 150, 152, 153, 156, 154] M1 G := wu.on (by simp) (wt.on (by simp) (mm_fr_refl _ _))
    have kk : ∀ i, i < 32 → T.1 122 (32 * k + i) = M.1 (4 + k) i := fun i hi => by rw [(wt 122 (by decide)).1, (w1 122 (by decide)).1]; exact hke k hk i hi
    have tt : ∀ i, i < ts → T.1 119 i = M.1 1 i := fun i hi => by rw [t1 i hi, (w1 118 (by decide)).1]; exact hta i hi
    simp only [Nat.zero_add] at p1 p2
    refine p_row (ts' := 0) h' w1 (by simp) w2 (by simp) (by omega) (by omega) r0 (by rw [(wu 117 (by decide)).1]; exact t2) r3 (by decide) r2 (fun j hj => ?_) ((hz.fr w1 (by decide)).fr w2 (by decide))
    by_cases d : j < n
    · rw [if_pos d, p1 j d]
      exact aeX_congr kk (tt _ (by omega))
    · rw [if_neg d]
      have := p2 (j - n) (by omega)
      rw [show n + (j - n) = j from by omega] at this
      rw [this]
      exact aeT_congr kk (fun i hi => by rw [tt i (by omega)]) (fun i hi => congrArg ub (aeX_congr (src := fun j => T.1 119 (a + j)) (src' := fun j => M.1 1 (a + j)) kk (tt _ (by omega)))) _
  · have eA : f_X11_seal v1 u v2 v3 ts M = (-2, M) := by
      unfold f_X11_seal
      rw [if_neg c]
      by_cases d : f_X11_isKey v1 = 0
      · rw [if_pos d]
      · rw [if_neg d]
        by_cases e : (984 : Int32) < v3
        · rw [if_pos e]
        · rw [if_neg e]
    have eB : f_X12_seal v1 u v2 v3 ts M = (-2, M) := by
      unfold f_X12_seal
      rw [if_neg (fun q => c (ce.mp q))]
      by_cases d : f_X12_isKey v1 = 0
      · rw [if_pos d]
      · rw [if_neg d]
        by_cases e : f_X12_in v2 0 (nI ts) = 0
        · rw [if_pos e]
        · rw [if_neg e]
          by_cases f : f_X12_in v3 0 984 = 0
          · rw [if_pos f]
          · rw [if_neg f]
    rw [eA]
    dsimp only
    rw [eB]
    exact ⟨rfl, ts, rs, h'⟩
theorem opE_0 (n : Nat) (M : mm_M) (v : Int32) (h : v = 0) : f_X11_open_B1 n M v = (-1, M) := by
  unfold f_X11_open_B1
  rw [if_pos h, tell_0]
theorem opE_1 (n : Nat) (M : mm_M) (v : Int32) (h : ¬ v = 0) (h16 : 16 ≤ n) (hn : n ≤ 1000) : f_X11_open_B1 n M v = (nI (n - 16), mm_w M 0 3 (nI (n - 16))) := by
  unfold f_X11_open_B1
  rw [if_neg h, nI_sub16 n h16 (by omega), tell_1 _ _ (nI_neg1 _ (by omega))]
theorem p_open (h : pubR M ts rs) (v1 : Int32) (u : Int64) (v2 v3 : Int32) : simR (f_X11_open v1 u v2 v3 ts M) (f_X12_open v1 u v2 v3 ts (f_X11_open v1 u v2 v3 ts M).2) := by
  have h' := h
  obtain ⟨⟨ht, hr⟩, ⟨e1, e2, e3, e4⟩, hta, hre, hke, hta2, ⟨hT, hz⟩, hs⟩ := h
  have ce : (¬ f_X12_isKey v1 = 0 ∧ ¬ f_X12_in v2 0 (nI ts) = 0 ∧ ¬ f_X12_in v3 0 (nI ts - v2) = 0) ↔ (¬ f_X11_isKey v1 = 0 ∧ ¬ f_X11_areOnTape v2 v3 M = 0) := by
    rw [key_eq, tape_eq e1, in_iff, aot_iff, e1]
  by_cases c : ¬ f_X11_isKey v1 = 0 ∧ ¬ f_X11_areOnTape v2 v3 M = 0
  · have hk := (g_isKey c.1).2
    obtain ⟨⟨g1, g2⟩, g3, g4⟩ := g_areOnTape ht e1 c.2
    have w1 := (w_f_X11_open v1 u v2 v3 ts M).m
    have eA : f_X11_open v1 u v2 v3 ts M = f_X11_open_B1 v3.toNatClampNeg (f_X0_decrypt 1 v2.toNatClampNeg v3.toNatClampNeg 2 0 (f_X0_associate 1 v2.toNatClampNeg (f_X0_begin (4 + v1.toNatClampNeg) u (f_X11_emptyTape M)))).2 (f_X0_decrypt 1 v2.toNatClampNeg v3.toNatClampNeg 2 0 (f_X0_associate 1 v2.toNatClampNeg (f_X0_begin (4 + v1.toNatClampNeg) u (f_X11_emptyTape M)))).1 := by
      unfold f_X11_open
      rw [if_pos c]
    have eB : ∀ N, f_X12_open v1 u v2 v3 ts N = f_X12_open_B1 v3.toNatClampNeg (f_X12_opens 122 (32 * v1.toNatClampNeg) u 119 0 v2.toNatClampNeg 119 v2.toNatClampNeg v3.toNatClampNeg 120 0 (f_X12_takes ts N)).2 (f_X12_opens 122 (32 * v1.toNatClampNeg) u 119 0 v2.toNatClampNeg 119 v2.toNatClampNeg v3.toNatClampNeg 120 0 (f_X12_takes ts N)).1 := fun N => by
      unfold f_X12_open
      rw [if_pos (ce.mpr c)]
    rw [eA] at w1 ⊢
    rw [eB]
    generalize v1.toNatClampNeg = k at *
    generalize v2.toNatClampNeg = a at *
    generalize v3.toNatClampNeg = n at *
    have we : mm_fr [0] M (f_X11_emptyTape M) := w_f_X11_emptyTape M
    have ee : (f_X11_emptyTape M).1 0 1 = nI 0 := rd_wS _ _ _ _
    have e03 : (f_X11_emptyTape M).1 0 3 = M.1 0 3 := rd_wN _ _ _ _ (Or.inr (by decide))
    generalize f_X11_emptyTape M = Me at *
    have wf : mm_fr [34, 35, 33, 37, 40, 38, 39, 31, 41, 2] Me (f_X0_decrypt 1 a n 2 0 (f_X0_associate 1 a (f_X0_begin (4 + k) u Me))).2 := (w_f_X0_decrypt _ _ _ _ _ _).m.on (by simp) ((w_f_X0_associate _ _ _).on (by simp) ((w_f_X0_begin _ _ _).on (by simp) (mm_fr_refl _ _)))
    have rO0 : ∀ (G : mm_M) (v : Int32), v = 0 → f_X12_open_B1 n G v = (-1, G) := fun G v z => by
      unfold f_X12_open_B1
      rw [if_neg (fun q => q z)]
    have rO1 : ∀ (G : mm_M) (v : Int32), ¬ v = 0 → f_X12_open_B1 n G v = f_X12_tells 120 (n - 16) G := fun G v z => by
      unfold f_X12_open_B1
      rw [if_pos z]
    by_cases h16 : 16 ≤ n
    · obtain ⟨o1, o2⟩ := e_open (4 + k) 1 a 1 a n 2 0 u Me (by omega) (by omega) (by omega) (by omega) (by omega) (by omega) (by omega) h16
      rw [(we (4 + k) (by simp <;> omega)).1, (we 1 (by decide)).1, (we 2 (by decide)).1] at o1 o2
      generalize f_X0_decrypt 1 a n 2 0 (f_X0_associate 1 a (f_X0_begin (4 + k) u Me)) = X at *
      by_cases g : aeOK (M.1 (4 + k)) u (fun j => ub (M.1 1 j)) a (fun j => M.1 1 (a + j)) n
      · obtain ⟨y1, y2⟩ := o1 g
        rw [opE_1 n X.2 X.1 (by rw [y1]; decide) h16 (by omega)] at w1 ⊢
        dsimp only at *
        have r0 : (mm_w X.2 0 3 (nI (n - 16))).1 0 1 = nI 0 := by rw [rd_wN _ _ _ _ (Or.inr (by decide)), (wf 0 (by decide)).1]; exact ee
        have r3 : (mm_w X.2 0 3 (nI (n - 16))).1 0 3 = nI (n - 16) := rd_wS _ _ _ _
        have r2 : ∀ j, j < n - 16 → (mm_w X.2 0 3 (nI (n - 16))).1 2 j = aeX (M.1 (4 + k)) u (fun j => M.1 1 (a + j)) j := fun j hj => by
          rw [rd_wN _ _ _ _ (Or.inl (by decide)), y2 j, if_pos (by omega), Nat.sub_zero]
        generalize mm_w X.2 0 3 (nI (n - 16)) = M1 at *
        obtain ⟨t1, t2, t3⟩ := rd_takes ts M1
        have wt := w_f_X12_takes ts M1
        generalize f_X12_takes ts M1 = T at *
        have kk : ∀ i, i < 32 → T.1 122 (32 * k + i) = M.1 (4 + k) i := fun i hi => by rw [(wt 122 (by decide)).1, (w1 122 (by decide)).1]; exact hke k hk i hi
        have tt : ∀ i, i < ts → T.1 119 i = M.1 1 i := fun i hi => by rw [t1 i hi, (w1 118 (by decide)).1]; exact hta i hi
        obtain ⟨q1, q2⟩ := r_open 122 (32 * k) 119 0 a 119 a n 120 0 u T (by omega) (by omega) (by omega) (by omega) (by omega) (by omega) (by omega) (by omega) h16
        have okc : aeOK (fun i => T.1 122 (32 * k + i)) u (fun j => ub (T.1 119 (0 + j))) a (fun j => T.1 119 (a + j)) n ↔ aeOK (M.1 (4 + k)) u (fun j => ub (M.1 1 j)) a (fun j => M.1 1 (a + j)) n := aeOK_congr kk (fun j hj => by rw [Nat.zero_add, tt j (by omega)]) h16 (fun j hj => tt _ (by omega))
        have wu := (w_f_X12_opens 122 (32 * k) u 119 0 a 119 a n 120 0 T).m
        generalize f_X12_opens 122 (32 * k) u 119 0 a 119 a n 120 0 T = Y at *
        obtain ⟨z1, z2⟩ := q1 (okc.mpr g)
        rw [rO1 Y.2 Y.1 (by rw [z1]; decide)]
        have w2 : mm_fr [119, 117, 147, 149, 148, 155, 151, 150, 152, 153, 156, 154, 120] M1 Y.2 := wu.on (by simp) (wt.on (by simp) (mm_fr_refl _ _))
        refine p_row (ts' := 0) h' w1 (by simp) w2 (by simp) (by omega) (by omega) r0 (by rw [(wu 117 (by decide)).1]; exact t2) r3 (by decide) r2 (fun j hj => ?_) ((hz.fr w1 (by decide)).fr w2 (by decide))
        rw [z2 j, if_pos (by omega), Nat.sub_zero]
        exact aeX_congr kk (tt _ (by omega))
      · obtain ⟨y1, y2⟩ := o2 g
        rw [opE_0 n X.2 X.1 y1] at w1 ⊢
        dsimp only at *
        generalize X.2 = M1 at *
        obtain ⟨t1, t2, t3⟩ := rd_takes ts M1
        have wt := w_f_X12_takes ts M1
        generalize f_X12_takes ts M1 = T at *
        have kk : ∀ i, i < 32 → T.1 122 (32 * k + i) = M.1 (4 + k) i := fun i hi => by rw [(wt 122 (by decide)).1, (w1 122 (by decide)).1]; exact hke k hk i hi
        have tt : ∀ i, i < ts → T.1 119 i = M.1 1 i := fun i hi => by rw [t1 i hi, (w1 118 (by decide)).1]; exact hta i hi
        obtain ⟨q1, q2⟩ := r_open 122 (32 * k) 119 0 a 119 a n 120 0 u T (by omega) (by omega) (by omega) (by omega) (by omega) (by omega) (by omega) (by omega) h16
        have okc : aeOK (fun i => T.1 122 (32 * k + i)) u (fun j => ub (T.1 119 (0 + j))) a (fun j => T.1 119 (a + j)) n ↔ aeOK (M.1 (4 + k)) u (fun j => ub (M.1 1 j)) a (fun j => M.1 1 (a + j)) n := aeOK_congr kk (fun j hj => by rw [Nat.zero_add, tt j (by omega)]) h16 (fun j hj => tt _ (by omega))
        have wu := (w_f_X12_opens 122 (32 * k) u 119 0 a 119 a n 120 0 T).m
        generalize f_X12_opens 122 (32 * k) u 119 0 a 119 a n 120 0 T = Y at *
        rw [rO0 Y.2 Y.1 (q2 (fun z => g (okc.mp z))).1]
        have w2 : mm_fr [119, 117, 147, 149, 148, 155, 151, 150, 152, 153, 156, 154, 120] M1 Y.2 := wu.on (by simp) (wt.on (by simp) (mm_fr_refl _ _))
        exact p_none h' w1 (by simp) w2 (by simp) (by rw [(wf 0 (by decide)).1]; exact ee) (by rw [(wu 117 (by decide)).1]; exact t2) (by rw [(wf 0 (by decide)).1]; exact e03) (by rw [(wu 117 (by decide)).1]; exact t3) y2
    · rw [dec_lo 1 a n 2 0 _ (by omega)] at w1 wf ⊢
      rw [opE_0 n _ 0 rfl] at w1 ⊢
      dsimp only at *
      have y2 : (f_X0_associate 1 a (f_X0_begin (4 + k) u Me)).1 2 = M.1 2 := by rw [(w_f_X0_associate _ _ _ 2 (by decide)).1, (w_f_X0_begin _ _ _ 2 (by decide)).1, (we 2 (by decide)).1]
      generalize f_X0_associate 1 a (f_X0_begin (4 + k) u Me) = M1 at *
      obtain ⟨t1, t2, t3⟩ := rd_takes ts M1
      have wt := w_f_X12_takes ts M1
      rw [op_lo _ _ _ _ _ _ _ _ _ _ _ _ h16, rO0 _ 0 rfl]
      exact p_none h' w1 (by simp) wt (by simp) (by rw [(wf 0 (by decide)).1]; exact ee) t2 (by rw [(wf 0 (by decide)).1]; exact e03) t3 y2
  · have eA : f_X11_open v1 u v2 v3 ts M = (-2, M) := by
      unfold f_X11_open
      rw [if_neg c]
      by_cases d : f_X11_isKey v1 = 0
      · rw [if_pos d]
      · rw [if_neg d]
    have eB : f_X12_open v1 u v2 v3 ts M = (-2, M) := by
      unfold f_X12_open
      rw [if_neg (fun q => c (ce.mp q))]
      by_cases d : f_X12_isKey v1 = 0
      · rw [if_pos d]
      · rw [if_neg d]
        by_cases e : f_X12_in v2 0 (nI ts) = 0
        · rw [if_pos e]
        · rw [if_neg e]
    rw [eA]
    dsimp only
    rw [eB]
    exact ⟨rfl, ts, rs, h'⟩
theorem p_out (h : pubR M ts rs) (v1 : Int32) : f_X11_out v1 rs M = f_X12_out v1 rs M := by
  obtain ⟨⟨ht, hr⟩, ⟨e1, e2, e3, e4⟩, hta, hre, -⟩ := h
  have ci := in_1 hr v1
  unfold f_X11_out f_X12_out
  by_cases c : ¬ v1 < 0 ∧ ¬ nI rs ≤ v1
  · rw [if_neg c.1, if_neg c.2] at ci
    rw [if_pos c, if_pos (by rw [ci]; decide)]
    dsimp only
    rw [hre _ (mm_nat (by omega) c.1 c.2).2]
  · have z : f_X12_in v1 0 (nI rs - 1) = 0 := by
      rw [ci]
      by_cases d : v1 < 0
      · rw [if_pos d]
      · rw [if_neg d]
        by_cases e : nI rs ≤ v1
        · rw [if_pos e]
        · exact absurd ⟨d, e⟩ c
    have L : (if v1 < 0 then (-1 : Int32) else -1) = -1 := by
      by_cases d : v1 < 0
      · rw [if_pos d]
      · rw [if_neg d]
    rw [if_neg c, L, if_neg (fun q => q z)]
theorem p_count (h : pubR M ts rs) (v1 : Int32) : f_X11_count v1 M = f_X12_count v1 M := by
  obtain ⟨-, ⟨e1, e2, e3, e4⟩, -⟩ := h
  unfold f_X11_count f_X12_count
  rw [e1, e2, e3, e4]
  by_cases c : v1 = 0
  · rw [if_pos c, if_neg (fun q => q c)]
  · rw [if_neg c, if_pos c]
    by_cases d : v1 = 1
    · rw [if_pos d, if_neg (fun q => q d)]
    · rw [if_neg d, if_pos d]
theorem beg_eq (h : pubR M ts rs) (v : Int32) : f_X12_isSession v M = f_X11_hasBegun v M := by
  unfold f_X12_isSession f_X11_hasBegun
  rw [ses_eq]
  by_cases c : ¬ f_X11_isSession v = 0
  · rw [if_pos c, if_pos c]
    have hq := (g_isSession c).2
    dsimp only
    unfold f_X7_hasBegun
    rcases h.2.2.2.2.2.2.2 _ hq with ⟨h1, h2⟩ | ⟨st, ini, rf, S, os, oe, xs, xe, ks, kr, ns, nr, h1, h2, h3, h4, h5, h6⟩
    · rw [h2, if_pos rfl, if_pos h1, if_pos rfl]
    · rw [h6.1, if_neg (by decide), h5.2.1, if_neg (nI_neg1 st (by omega)), if_neg (by decide)]
  · rw [if_neg c, if_neg c]
theorem beg_get (h : pubR M ts rs) {v : Int32} (c : ¬ f_X11_hasBegun v M = 0) : v.toNatClampNeg < 4 ∧ ∃ (st : Nat) (ini rf : Int32) (S : sy) (os oe xs xe ks kr : Nat → Int32) (ns nr : Int64), st ≤ 3 ∧ (ini = 0 ∨ ini = 1) ∧ (st < 3 → ns = 0 ∧ nr = 0) ∧ (st = 2 → ¬ S.2.2.2.1 = 0) ∧ e_ses M (49 + 17 * v.toNatClampNeg) st ini rf S os oe xs xe ks kr ns nr ∧ r_ses M v.toNatClampNeg st ini rf S os oe xs xe ks kr ns nr := by
  obtain ⟨⟨-, g1⟩, g2⟩ := g_hasBegun c
  refine ⟨g1, ?_⟩
  rcases h.2.2.2.2.2.2.2 _ g1 with ⟨h1, -⟩ | q
  · exact absurd h1 g2
  · exact q
theorem st_lt {st : Nat} (h : st ≤ 3) (k : Nat) (hk : k < 100) : nI st < nI k ↔ st < k := nI_ltI (by omega) (by omega)
theorem kS_eq {x st : Nat} {ini : Int32} (h1 : M.1 x 9 = ini) (h2 : M.1 x 10 = nI st) (hst : st ≤ 3) : (f_X7_knowsStatic x M = 0 ↔ ¬ knS st ini) := by
  unfold f_X7_knowsStatic knS
  rw [h1, h2]
  by_cases c : ini = 0
  · rw [if_pos c, if_pos c]
    by_cases d : st < 3
    · rw [if_pos (show nI st < 3 from (st_lt hst 3 (by decide)).mpr d)]; exact ⟨fun _ => by omega, fun _ => rfl⟩
    · rw [if_neg (show ¬ nI st < 3 from fun q => d ((st_lt hst 3 (by decide)).mp q))]; exact ⟨fun q => absurd q (by decide), fun q => absurd q (by omega)⟩
  · rw [if_neg c, if_neg c]
    by_cases d : st < 2
    · rw [if_pos (show nI st < 2 from (st_lt hst 2 (by decide)).mpr d)]; exact ⟨fun _ => by omega, fun _ => rfl⟩
    · rw [if_neg (show ¬ nI st < 2 from fun q => d ((st_lt hst 2 (by decide)).mp q))]; exact ⟨fun q => absurd q (by decide), fun q => absurd q (by omega)⟩
theorem kE_eq {x st : Nat} {ini : Int32} (h1 : M.1 x 9 = ini) (h2 : M.1 x 10 = nI st) (hst : st ≤ 3) : (f_X7_knowsEphemeral x M = 0 ↔ ¬ knE st ini) := by
  unfold f_X7_knowsEphemeral knE
  rw [h1, h2]
  by_cases c : ini = 0
  · rw [if_pos c, if_pos c]
    by_cases d : st < 1
    · rw [if_pos (show nI st < 1 from (st_lt hst 1 (by decide)).mpr d)]; exact ⟨fun _ => by omega, fun _ => rfl⟩
    · rw [if_neg (show ¬ nI st < 1 from fun q => d ((st_lt hst 1 (by decide)).mp q))]; exact ⟨fun q => absurd q (by decide), fun q => absurd q (by omega)⟩
  · rw [if_neg c, if_neg c]
    by_cases d : st < 2
    · rw [if_pos (show nI st < 2 from (st_lt hst 2 (by decide)).mpr d)]; exact ⟨fun _ => by omega, fun _ => rfl⟩
    · rw [if_neg (show ¬ nI st < 2 from fun q => d ((st_lt hst 2 (by decide)).mp q))]; exact ⟨fun q => absurd q (by decide), fun q => absurd q (by omega)⟩
theorem p_state (h : pubR M ts rs) (v1 v2 : Int32) : f_X11_state v1 v2 M = f_X12_state v1 v2 M := by
  unfold f_X11_state f_X12_state
  rw [beg_eq h]
  by_cases c : ¬ f_X11_hasBegun v1 M = 0
  · rw [if_pos c, if_pos c]
    obtain ⟨hq, st, ini, rf, S, os, oe, xs, xe, ks, kr, ns, nr, h1, h2, h3, h4, h5, h6⟩ := beg_get h c
    dsimp only
    generalize v1.toNatClampNeg = q at *
    have kS := kS_eq h5.1 h5.2.1 h1
    obtain ⟨a1, a2, a3, a4, a5, a6, a7, a8, a9, a10, a11⟩ := h5
    obtain ⟨b1, b2, b3, b4, b5, b6, b7, b8, b9, c1, c2, c3, c4, d1, d2, d3⟩ := h6
    unfold f_X7_figure f_X3_nonce
    rw [a1, a2, a3, a10, a11, b2, b3, b4, d2, d3]
    by_cases z0 : v2 = 0
    · rw [if_pos z0, if_pos z0]
    · rw [if_neg z0, if_neg z0]
      by_cases z1 : v2 = 1
      · rw [if_pos z1, if_pos z1]
      · rw [if_neg z1, if_neg z1]
        by_cases z2 : v2 = 2
        · rw [if_pos z2, if_pos z2]
          by_cases k : knS st ini
          · rw [if_neg (fun z => (kS.mp z) k), if_neg (by rw [(c1 k).1]; decide)]
          · rw [if_pos (kS.mpr k), if_pos (c2 k)]
        · rw [if_neg z2, if_neg z2]
          by_cases z3 : v2 = 3
          · rw [if_pos z3, if_pos z3]
            by_cases i : ini = 0
            · rw [if_pos i, if_pos i]
            · rw [if_neg i, if_neg i]
          · rw [if_neg z3, if_neg z3]
            by_cases z4 : v2 = 4
            · rw [if_pos z4, if_pos z4]
              by_cases i : ini = 0
              · rw [if_pos i, if_pos i]
              · rw [if_neg i, if_neg i]
            · rw [if_neg z4, if_neg z4]
  · rw [if_neg c, if_neg c]
theorem p_told (h : pubR M ts rs) (v1 v2 v3 : Int32) : f_X11_told v1 v2 v3 M = f_X12_told v1 v2 v3 M := by
  unfold f_X11_told f_X12_told
  rw [beg_eq h]
  have ce : ¬ f_X12_in v3 0 31 = 0 ↔ ¬ v3 < 0 ∧ v3 < 32 := by
    rw [in_iff]
    constructor
    · rintro ⟨a, b⟩
      refine ⟨a, ?_⟩
      obtain ⟨j, hj, rfl⟩ := nI_of a
      exact (nI_ltI (b := 32) hj (by decide)).mpr (by
        rcases Nat.lt_or_ge j 32 with z | z
        · exact z
        · exact absurd ((nI_ltI (a := 31) (by decide) hj).mpr (by omega)) b)
    · rintro ⟨a, b⟩
      refine ⟨a, fun z => ?_⟩
      obtain ⟨j, hj, rfl⟩ := nI_of a
      have x1 := (nI_ltI (b := 32) hj (by decide)).mp b
      have x2 := (nI_ltI (a := 31) (by decide) hj).mp z
      omega
  by_cases c : ¬ f_X11_hasBegun v1 M = 0
  · by_cases c3 : ¬ v3 < 0 ∧ v3 < 32
    · rw [if_pos ⟨c, c3⟩, if_pos ⟨c, ce.mpr c3⟩]
      have h32 : v3.toNatClampNeg < 32 := by
        obtain ⟨j, hj, rfl⟩ := nI_of c3.1
        have x1 := (nI_ltI (b := 32) hj (by decide)).mp c3.2
        rw [nI_clamp hj]; exact x1
      obtain ⟨hq, st, ini, rf, S, os, oe, xs, xe, ks, kr, ns, nr, h1, h2, h3, h4, h5, h6⟩ := beg_get h c
      dsimp only
      generalize v1.toNatClampNeg = q at *
      generalize v3.toNatClampNeg = k at *
      have kS := kS_eq h5.1 h5.2.1 h1
      have kE := kE_eq h5.1 h5.2.1 h1
      obtain ⟨a1, a2, a3, a4, a5, a6, a7, a8, a9, a10, a11⟩ := h5
      obtain ⟨b1, b2, b3, b4, b5, b6, b7, b8, b9, c1, c2, c3', c4, d1, d2, d3⟩ := h6
      unfold f_X7_knownByte
      by_cases z0 : v2 = 0
      · rw [if_neg (fun z => z z0), if_pos z0, b5.1 k h32]
        have := a4.1 k h32
        rw [show 49 + 17 * q + 6 = 49 + 17 * q + 5 + 1 from rfl, this]
      · rw [if_pos z0, if_neg z0]
        by_cases z1 : v2 = 1
        · rw [if_neg (fun z => z z1), if_pos z1]
          by_cases kk : knS st ini
          · rw [if_neg (fun z => (kS.mp z) kk), if_neg (by rw [(c1 kk).1]; decide), a7 kk k h32]
            have := (c1 kk).2 k h32
            rw [show 352 * q + k + 128 = 352 * q + 128 + k from by omega, this]
          · rw [if_pos (kS.mpr kk), if_pos (c2 kk), if_pos (by rw [z1]; decide)]
        · rw [if_pos z1, if_neg z1]
          by_cases z2 : v2 = 2
          · rw [if_neg (fun z => z z2), if_pos z2]
            by_cases kk : knE st ini
            · rw [if_neg (fun z => (kE.mp z) kk), if_neg (by rw [(c3' kk).1]; decide), a8 kk k h32]
              have := (c3' kk).2 k h32
              rw [show 352 * q + k + 96 = 352 * q + 96 + k from by omega, this]
            · rw [if_pos (kE.mpr kk), if_pos (c4 kk)]
          · rw [if_pos z2, if_neg z2]
    · rw [if_neg (show ¬ (¬ f_X11_hasBegun v1 M = 0 ∧ ¬ v3 < 0 ∧ v3 < 32) from fun z => c3 z.2), if_neg (show ¬ (¬ f_X11_hasBegun v1 M = 0 ∧ ¬ f_X12_in v3 0 31 = 0) from fun z => c3 (ce.mp z.2))]
      simp only [ite_self]
  · rw [if_neg (show ¬ (¬ f_X11_hasBegun v1 M = 0 ∧ ¬ v3 < 0 ∧ v3 < 32) from fun z => c z.1), if_neg (show ¬ (¬ f_X11_hasBegun v1 M = 0 ∧ ¬ f_X12_in v3 0 31 = 0) from fun z => c z.1)]
    simp only [ite_self]
end PA
