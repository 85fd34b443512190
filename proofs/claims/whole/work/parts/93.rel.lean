/-! the reference's new session; the relation between both sides -/
theorem nine_eq : ∀ j, j < 32 → nine j = if j = 0 then 9 else 0 := by decide
def z46 (M : mm_M) : Prop := ∀ j, 1 ≤ j → j < 32 → M.1 146 j = 0
theorem r_own (k p : Nat) (M : mm_M) (h1 : k ≠ 144) (h2 : k ≠ 146) (h : z46 M) : (∀ j, j < 32 → (f_X12_curvedOwn k p M).1 145 j = cvB (fun i => M.1 k (p + i)) nine j) ∧ z46 (f_X12_curvedOwn k p M) := by
  unfold f_X12_curvedOwn
  dsimp only
  have w1 : mm_fr [146] M (mm_w M 146 0 9) := mm_fr_w (by simp) (mm_fr_refl _ _)
  have e9 : ∀ j, j < 32 → (mm_w M 146 0 9).1 146 j = nine j := fun j hj => by
    rw [rd_w, nine_eq j hj]
    by_cases c : j = 0
    · rw [if_pos ⟨rfl, c⟩, if_pos c]
    · rw [if_neg (fun q => c q.2), if_neg c]; exact h j (by omega) hj
  generalize mm_w M 146 0 9 = M1 at *
  have g := r_curve k p 146 0 h1 (by decide) M1
  have w2 := w_f_X12_curved k p 146 0 M1
  refine ⟨fun j hj => ?_, fun j q1 q2 => ?_⟩
  · rw [g j hj, (w1 k (by simp <;> omega)).1]
    exact congrFun (cvB_congr (fun _ _ => rfl) (fun i hi => by rw [Nat.zero_add]; exact e9 i hi)) j
  · rw [(w2 146 (by decide)).1, e9 j q2, nine_eq j q2, if_neg (by omega)]
theorem rk_w1 {s : Nat} (M : mm_M) (i : Nat) (v : Int32) (h1 : 352 * s ≤ i) (h2 : i < 352 * s + 352) : rk s M (mm_w M 157 i v) :=
  ⟨fun j hj => rd_wN _ _ _ _ (Or.inr (by omega)), fun k j _ b c => ⟨rd_wN _ _ _ _ (Or.inl (by omega)), rfl⟩, fun j _ => rd_wN _ _ _ _ (Or.inl (by decide))⟩
theorem rk_53 (s : Nat) (σ : mm_M) : ∀ t, t ≤ 352 → rk s σ (f_X12_start__L53 s σ t)
  | 0, _ => rk.refl _ _
  | t + 1, h => by
    rw [f_X12_start__L53]
    exact (rk_53 s σ t (by omega)).trans (rk_w1 _ _ _ (by omega) (by omega))
theorem rk_151 (s : Nat) (σ : mm_M) : ∀ t, t ≤ 32 → rk s σ (f_X12_start__L151 s σ t)
  | 0, _ => rk.refl _ _
  | t + 1, h => by
    rw [f_X12_start__L151]
    exact (rk_151 s σ t (by omega)).trans ((rk_w1 _ _ _ (by omega) (by omega)).trans (rk_w1 _ _ _ (by omega) (by omega)))
theorem rd_151 (s : Nat) (σ : mm_M) : ∀ t, t ≤ 32 → ∀ j, j < t → (f_X12_start__L151 s σ t).1 157 (352 * s + j) = nmF j ∧ (f_X12_start__L151 s σ t).1 157 (352 * s + 32 + j) = nmF j
  | 0, _, j, h => absurd h (by omega)
  | t + 1, h, j, hj => by
    rw [f_X12_start__L151]
    try dsimp only
    have ih := rd_151 s σ t (by omega) j
    generalize f_X12_start__L151 s σ t = R at *
    by_cases c : j = t
    · subst c
      rw [rd_wN _ _ _ _ (Or.inr (by omega)), rd_wS, rd_wS]
      exact ⟨rfl, rfl⟩
    · rw [rd_wN _ _ _ _ (Or.inr (by omega)), rd_wN _ _ _ _ (Or.inr (by omega)), rd_wN _ _ _ _ (Or.inr (by omega)), rd_wN _ _ _ _ (Or.inr (by omega))]
      exact ih (by omega)
/-- the reference's new session -/
def stF (s : Nat) (v2 : Int32) (f p n : Nat) (M : mm_M) : mm_M :=
  f_X12_copy 145 0 157 (352 * s + 256) 32 (f_X12_curvedOwn 157 (352 * s + 224) (f_X12_copy 145 0 157 (352 * s + 192) 32 (f_X12_curvedOwn 157 (352 * s + 160) (f_X12_copy 122 (32 * p) 157 (352 * s + 224) 32 (f_X12_copy 122 (32 * f) 157 (352 * s + 160) 32 (f_X12_mixHash s 119 0 n (f_X12_start__L151 s (mm_wl (mm_wl (mm_wl (mm_w (mm_w (mm_w (mm_w (mm_w (mm_w (mm_w (f_X12_start__L53 s M 352) 159 s 1) 160 s v2) 161 s 0) 162 s 0) 163 s 0) 164 s 0) 165 s 0) 166 s 0) 167 s 0) 168 s 0) 32)))))))
theorem r_bgn (s : Nat) (v2 : Int32) (f p n : Nat) (hn : n ≤ 1000) (M : mm_M) (hT : rT M) (hz : z46 M) (xs xe ks kr : Nat → Int32) : r_ses (stF s v2 f p n M) s 0 v2 0 (syH sy0 (fun j => ub (M.1 119 j)) n) (fun j => M.1 122 (32 * f + j)) (fun j => M.1 122 (32 * p + j)) xs xe ks kr 0 0 ∧ rk s M (stF s v2 f p n M) ∧ z46 (stF s v2 f p n M) ∧ mm_fr [159, 160, 161, 162, 163, 164, 165, 166, 167, 168, 117, 128, 129, 126, 127, 125, 157, 146, 144, 132, 134, 133, 136, 140, 142, 135, 143, 139, 145, 141, 137, 138] M (stF s v2 f p n M) := by
  unfold stF
  have k1 := rk_53 s M 352 (by decide)
  have w1 := w_f_X12_start__L53 s M 352
  generalize f_X12_start__L53 s M 352 = M1 at *
  have k2 : rk s M1 (mm_wl (mm_wl (mm_wl (mm_w (mm_w (mm_w (mm_w (mm_w (mm_w (mm_w M1 159 s 1) 160 s v2) 161 s 0) 162 s 0) 163 s 0) 164 s 0) 165 s 0) 166 s 0) 167 s 0) 168 s 0) := (rk_w _ 159 _ (by omega) (by omega)).trans ((rk_w _ 160 _ (by omega) (by omega)).trans ((rk_w _ 161 _ (by omega) (by omega)).trans ((rk_w _ 162 _ (by omega) (by omega)).trans ((rk_w _ 163 _ (by omega) (by omega)).trans ((rk_w _ 164 _ (by omega) (by omega)).trans ((rk_w _ 165 _ (by omega) (by omega)).trans ((rk_wl _ 166 _).trans ((rk_wl _ 167 _).trans (rk_wl _ 168 _)))))))))
  have w2 : mm_fr [159, 160, 161, 162, 163, 164, 165, 166, 167, 168] M1 (mm_wl (mm_wl (mm_wl (mm_w (mm_w (mm_w (mm_w (mm_w (mm_w (mm_w M1 159 s 1) 160 s v2) 161 s 0) 162 s 0) 163 s 0) 164 s 0) 165 s 0) 166 s 0) 167 s 0) 168 s 0) := mm_fr_wl (by simp) (mm_fr_wl (by simp) (mm_fr_wl (by simp) (mm_fr_w (by simp) (mm_fr_w (by simp) (mm_fr_w (by simp) (mm_fr_w (by simp) (mm_fr_w (by simp) (mm_fr_w (by simp) (mm_fr_w (by simp) (mm_fr_refl _ _))))))))))
  have f2 : (mm_wl (mm_wl (mm_wl (mm_w (mm_w (mm_w (mm_w (mm_w (mm_w (mm_w M1 159 s 1) 160 s v2) 161 s 0) 162 s 0) 163 s 0) 164 s 0) 165 s 0) 166 s 0) 167 s 0) 168 s 0).1 159 s = 1 ∧ (mm_wl (mm_wl (mm_wl (mm_w (mm_w (mm_w (mm_w (mm_w (mm_w (mm_w M1 159 s 1) 160 s v2) 161 s 0) 162 s 0) 163 s 0) 164 s 0) 165 s 0) 166 s 0) 167 s 0) 168 s 0).1 160 s = v2 ∧ (mm_wl (mm_wl (mm_wl (mm_w (mm_w (mm_w (mm_w (mm_w (mm_w (mm_w M1 159 s 1) 160 s v2) 161 s 0) 162 s 0) 163 s 0) 164 s 0) 165 s 0) 166 s 0) 167 s 0) 168 s 0).1 161 s = 0 ∧ (mm_wl (mm_wl (mm_wl (mm_w (mm_w (mm_w (mm_w (mm_w (mm_w (mm_w M1 159 s 1) 160 s v2) 161 s 0) 162 s 0) 163 s 0) 164 s 0) 165 s 0) 166 s 0) 167 s 0) 168 s 0).1 162 s = 0 ∧ (mm_wl (mm_wl (mm_wl (mm_w (mm_w (mm_w (mm_w (mm_w (mm_w (mm_w M1 159 s 1) 160 s v2) 161 s 0) 162 s 0) 163 s 0) 164 s 0) 165 s 0) 166 s 0) 167 s 0) 168 s 0).1 163 s = 0 ∧ (mm_wl (mm_wl (mm_wl (mm_w (mm_w (mm_w (mm_w (mm_w (mm_w (mm_w M1 159 s 1) 160 s v2) 161 s 0) 162 s 0) 163 s 0) 164 s 0) 165 s 0) 166 s 0) 167 s 0) 168 s 0).1 164 s = 0 ∧ (mm_wl (mm_wl (mm_wl (mm_w (mm_w (mm_w (mm_w (mm_w (mm_w (mm_w M1 159 s 1) 160 s v2) 161 s 0) 162 s 0) 163 s 0) 164 s 0) 165 s 0) 166 s 0) 167 s 0) 168 s 0).1 165 s = 0 ∧ (mm_wl (mm_wl (mm_wl (mm_w (mm_w (mm_w (mm_w (mm_w (mm_w (mm_w M1 159 s 1) 160 s v2) 161 s 0) 162 s 0) 163 s 0) 164 s 0) 165 s 0) 166 s 0) 167 s 0) 168 s 0).2 166 s = 0 ∧ (mm_wl (mm_wl (mm_wl (mm_w (mm_w (mm_w (mm_w (mm_w (mm_w (mm_w M1 159 s 1) 160 s v2) 161 s 0) 162 s 0) 163 s 0) 164 s 0) 165 s 0) 166 s 0) 167 s 0) 168 s 0).2 167 s = 0 ∧ (mm_wl (mm_wl (mm_wl (mm_w (mm_w (mm_w (mm_w (mm_w (mm_w (mm_w M1 159 s 1) 160 s v2) 161 s 0) 162 s 0) 163 s 0) 164 s 0) 165 s 0) 166 s 0) 167 s 0) 168 s 0).2 168 s = 0 := by
    simp [rd_w, rd_wl1, rd_wl, rd_w2]
  generalize mm_wl (mm_wl (mm_wl (mm_w (mm_w (mm_w (mm_w (mm_w (mm_w (mm_w M1 159 s 1) 160 s v2) 161 s 0) 162 s 0) 163 s 0) 164 s 0) 165 s 0) 166 s 0) 167 s 0) 168 s 0 = M2 at *
  obtain ⟨f59, f60, f61, f62, f63, f64, f65, f66, f67, f68⟩ := f2
  have k3 := rk_151 s M2 32 (by decide)
  have w3 := w_f_X12_start__L151 s M2 32
  have r3 := rd_151 s M2 32 (by decide)
  generalize f_X12_start__L151 s M2 32 = M3 at *
  have s3 : r_sy M3 s sy0 := ⟨fun j hj => (r3 j hj).1, fun j hj => (r3 j hj).2, fun q => absurd rfl q, by rw [(w3 161 (by decide)).1]; exact f61, by rw [(w3 166 (by decide)).2]; exact f66⟩
  have hT3 := ((hT.fr w1 (by decide) (by decide)).fr w2 (by decide) (by decide)).fr w3 (by decide) (by decide)
  obtain ⟨m1, m2, m3⟩ := r_mixHash s 119 0 n (by decide) (by omega) M3 sy0 hT3 s3
  have w4 := w_f_X12_mixHash s 119 0 n M3
  generalize f_X12_mixHash s 119 0 n M3 = M4 at *
  simp only [Nat.zero_add, (w3 119 (by decide)).1, (w2 119 (by decide)).1, (w1 119 (by decide)).1] at m1
  have f4 : mm_fr [159, 160, 161, 162, 163, 164, 165, 166, 167, 168, 157, 117, 128, 129, 126, 127, 125] M M4 := w4.on (by simp) (w3.on (by simp) (w2.on (by simp) (w1.on (by simp) (mm_fr_refl _ _))))
  have kk4 := k1.trans (k2.trans (k3.trans m2))
  rw [copy_cp 122 (32 * f) 157 (352 * s + 160) _ (by decide)]
  have w5 : mm_fr [157] M4 (mm_cp M4 122 (32 * f) 157 (352 * s + 160) 32) := mm_fr_cp (by simp) (mm_fr_refl _ _)
  have k5 : rk s M4 (mm_cp M4 122 (32 * f) 157 (352 * s + 160) 32) := rk_w157 _ _ _ _ _ (by omega) (by omega)
  have a5 : ∀ j, j < 32 → (mm_cp M4 122 (32 * f) 157 (352 * s + 160) 32).1 157 (352 * s + 160 + j) = M.1 122 (32 * f + j) := fun j hj => by rw [rd_cpS _ _ _ _ _ _ hj, (f4 122 (by decide)).1]
  have b5 : ∀ i, (i < 352 * s + 160 ∨ 352 * s + 160 + 32 ≤ i) → (mm_cp M4 122 (32 * f) 157 (352 * s + 160) 32).1 157 i = M4.1 157 i := fun i hi => rd_cpN _ _ _ _ _ _ (Or.inr hi)
  generalize mm_cp M4 122 (32 * f) 157 (352 * s + 160) 32 = M5 at *
  rw [copy_cp 122 (32 * p) 157 (352 * s + 224) _ (by decide)]
  have w6 : mm_fr [157] M5 (mm_cp M5 122 (32 * p) 157 (352 * s + 224) 32) := mm_fr_cp (by simp) (mm_fr_refl _ _)
  have k6 : rk s M5 (mm_cp M5 122 (32 * p) 157 (352 * s + 224) 32) := rk_w157 _ _ _ _ _ (by omega) (by omega)
  have a6 : ∀ j, j < 32 → (mm_cp M5 122 (32 * p) 157 (352 * s + 224) 32).1 157 (352 * s + 224 + j) = M.1 122 (32 * p + j) := fun j hj => by rw [rd_cpS _ _ _ _ _ _ hj, (w5 122 (by decide)).1, (f4 122 (by decide)).1]
  have b6 : ∀ i, (i < 352 * s + 224 ∨ 352 * s + 224 + 32 ≤ i) → (mm_cp M5 122 (32 * p) 157 (352 * s + 224) 32).1 157 i = M5.1 157 i := fun i hi => rd_cpN _ _ _ _ _ _ (Or.inr hi)
  generalize mm_cp M5 122 (32 * p) 157 (352 * s + 224) 32 = M6 at *
  have z6 : z46 M6 := fun j q1 q2 => by rw [(w6 146 (by decide)).1, (w5 146 (by decide)).1, (f4 146 (by decide)).1]; exact hz j q1 q2
  obtain ⟨c7, z7⟩ := r_own 157 (352 * s + 160) M6 (by decide) (by decide) z6
  have w7 := w_f_X12_curvedOwn 157 (352 * s + 160) M6
  generalize f_X12_curvedOwn 157 (352 * s + 160) M6 = M7 at *
  have k7 : rk s M6 M7 := rk_fr w7 (by simp)
  rw [copy_cp 145 0 157 (352 * s + 192) _ (by decide)]
  have w8 : mm_fr [157] M7 (mm_cp M7 145 0 157 (352 * s + 192) 32) := mm_fr_cp (by simp) (mm_fr_refl _ _)
  have k8 : rk s M7 (mm_cp M7 145 0 157 (352 * s + 192) 32) := rk_w157 _ _ _ _ _ (by omega) (by omega)
  have a8 : ∀ j, j < 32 → (mm_cp M7 145 0 157 (352 * s + 192) 32).1 157 (352 * s + 192 + j) = cvB (fun j => M.1 122 (32 * f + j)) nine j := fun j hj => by
    rw [rd_cpS _ _ _ _ _ _ hj, Nat.zero_add, c7 j hj]
    exact congrFun (cvB_congr (fun i hi => by rw [b6 _ (by omega)]; exact a5 i hi) (fun _ _ => rfl)) j
  have b8 : ∀ i, (i < 352 * s + 192 ∨ 352 * s + 192 + 32 ≤ i) → (mm_cp M7 145 0 157 (352 * s + 192) 32).1 157 i = M6.1 157 i := fun i hi => by rw [rd_cpN _ _ _ _ _ _ (Or.inr hi), (w7 157 (by decide)).1]
  generalize mm_cp M7 145 0 157 (352 * s + 192) 32 = M8 at *
  have z8 : z46 M8 := fun j q1 q2 => by rw [(w8 146 (by decide)).1]; exact z7 j q1 q2
  obtain ⟨c9, z9⟩ := r_own 157 (352 * s + 224) M8 (by decide) (by decide) z8
  have w9 := w_f_X12_curvedOwn 157 (352 * s + 224) M8
  generalize f_X12_curvedOwn 157 (352 * s + 224) M8 = M9 at *
  have k9 : rk s M8 M9 := rk_fr w9 (by simp)
  rw [copy_cp 145 0 157 (352 * s + 256) _ (by decide)]
  have w10 : mm_fr [157] M9 (mm_cp M9 145 0 157 (352 * s + 256) 32) := mm_fr_cp (by simp) (mm_fr_refl _ _)
  have k10 : rk s M9 (mm_cp M9 145 0 157 (352 * s + 256) 32) := rk_w157 _ _ _ _ _ (by omega) (by omega)
  have a10 : ∀ j, j < 32 → (mm_cp M9 145 0 157 (352 * s + 256) 32).1 157 (352 * s + 256 + j) = cvB (fun j => M.1 122 (32 * p + j)) nine j := fun j hj => by
    rw [rd_cpS _ _ _ _ _ _ hj, Nat.zero_add, c9 j hj]
    exact congrFun (cvB_congr (fun i hi => by rw [b8 _ (by omega)]; exact a6 i hi) (fun _ _ => rfl)) j
  have b10 : ∀ i, (i < 352 * s + 256 ∨ 352 * s + 256 + 32 ≤ i) → (mm_cp M9 145 0 157 (352 * s + 256) 32).1 157 i = M8.1 157 i := fun i hi => by rw [rd_cpN _ _ _ _ _ _ (Or.inr hi), (w9 157 (by decide)).1]
  generalize mm_cp M9 145 0 157 (352 * s + 256) 32 = M10 at *
  have f10 : mm_fr [157, 146, 144, 132, 134, 133, 136, 140, 142, 135, 143, 139, 145, 141, 137, 138] M4 M10 := w10.on (by simp) (w9.on (by simp) (w8.on (by simp) (w7.on (by simp) (w6.on (by simp) (w5.on (by simp) (mm_fr_refl _ _))))))
  have row : ∀ i, i < 352 * s + 160 → M10.1 157 i = M4.1 157 i := fun i hi => by rw [b10 i (by omega), b8 i (by omega), b6 i (by omega), b5 i (by omega)]
  have fl : ∀ k, 158 ≤ k → k ≤ 168 → M10.1 k = M2.1 k ∧ M10.2 k = M2.2 k := fun k q1 q2 => by
    rw [(f10 k (by simp <;> omega)).1, (f10 k (by simp <;> omega)).2, (w4 k (by simp <;> omega)).1, (w4 k (by simp <;> omega)).2, (w3 k (by simp <;> omega)).1, (w3 k (by simp <;> omega)).2]
    exact ⟨rfl, rfl⟩
  have kS : ¬ knS 0 v2 := fun q => by
    unfold knS at q
    by_cases c : v2 = 0
    · rw [if_pos c] at q; omega
    · rw [if_neg c] at q; omega
  have kE : ¬ knE 0 v2 := fun q => by
    unfold knE at q
    by_cases c : v2 = 0
    · rw [if_pos c] at q; omega
    · rw [if_neg c] at q; omega
  refine ⟨⟨?_, ?_, ?_, ?_, ?_, ?_, ?_, ?_, ?_, fun q => absurd q kS, fun _ => ?_, fun q => absurd q kE, fun _ => ?_, fun q => by omega, ?_, ?_⟩, ?_, ?_, ?_⟩
  · rw [(fl 159 (by omega) (by omega)).1]; exact f59
  · rw [(fl 160 (by omega) (by omega)).1]; exact f60
  · rw [(fl 164 (by omega) (by omega)).1]; exact f64
  · rw [(fl 165 (by omega) (by omega)).1]; exact f65
  · exact m1.fr (fun i _ q => row i (by omega)) (by rw [(f10 161 (by decide)).1]) (by rw [(f10 166 (by decide)).2])
  · intro j hj; rw [b10 _ (by omega), b8 _ (by omega), b6 _ (by omega)]; exact a5 j hj
  · intro j hj; rw [b10 _ (by omega), b8 _ (by omega)]; exact a6 j hj
  · intro j hj; rw [b10 _ (by omega)]; exact a8 j hj
  · exact a10
  · rw [(fl 163 (by omega) (by omega)).1]; exact f63
  · rw [(fl 162 (by omega) (by omega)).1]; exact f62
  · rw [(fl 167 (by omega) (by omega)).2, f67]; by_cases c : v2 = 0 <;> simp [c]
  · rw [(fl 168 (by omega) (by omega)).2, f68]; by_cases c : v2 = 0 <;> simp [c]
  · exact kk4.trans (k5.trans (k6.trans (k7.trans (k8.trans (k9.trans k10)))))
  · intro j q1 q2; rw [(w10 146 (by decide)).1]; exact z9 j q1 q2
  · exact f10.on (by simp) (f4.on (by simp) (mm_fr_refl _ _))
/-! the relation -/
def sesR (M : mm_M) (s : Nat) : Prop := (M.1 (49 + 17 * s) 10 = -1 ∧ M.1 159 s = 0) ∨ ∃ (st : Nat) (ini rf : Int32) (S : sy) (os oe xs xe ks kr : Nat → Int32) (ns nr : Int64), st ≤ 3 ∧ (ini = 0 ∨ ini = 1) ∧ (st < 3 → ns = 0 ∧ nr = 0) ∧ (st = 2 → ¬ S.2.2.2.1 = 0) ∧ e_ses M (49 + 17 * s) st ini rf S os oe xs xe ks kr ns nr ∧ r_ses M s st ini rf S os oe xs xe ks kr ns nr
theorem sesR.keep {M N : mm_M} {s : Nat} (h : sesR M s) (e : ∀ k, 49 + 17 * s ≤ k → k ≤ 49 + 17 * s + 16 → N.1 k = M.1 k ∧ N.2 k = M.2 k) (r : ∀ i, 352 * s ≤ i → i < 352 * s + 352 → N.1 157 i = M.1 157 i) (g : ∀ k, 159 ≤ k → k ≤ 168 → N.1 k s = M.1 k s ∧ N.2 k s = M.2 k s) : sesR N s := by
  rcases h with ⟨h1, h2⟩ | ⟨st, ini, rf, S, os, oe, xs, xe, ks, kr, ns, nr, h1, h2, h3, h4, h5, h6⟩
  · exact Or.inl ⟨by rw [(e _ (by omega) (by omega)).1]; exact h1, by rw [(g 159 (by omega) (by omega)).1]; exact h2⟩
  · exact Or.inr ⟨st, ini, rf, S, os, oe, xs, xe, ks, kr, ns, nr, h1, h2, h3, h4, h5.keep e, h6.keep r g⟩
def pubR (M : mm_M) (ts rs : Nat) : Prop := (ts ≤ 1000 ∧ rs ≤ 1000) ∧ (M.1 0 1 = nI ts ∧ M.1 117 4 = nI ts ∧ M.1 0 3 = nI rs ∧ M.1 117 5 = nI rs) ∧ (∀ j, j < ts → M.1 118 j = M.1 1 j) ∧ (∀ j, j < rs → M.1 121 j = M.1 2 j) ∧ (∀ k, k < 8 → ∀ j, j < 32 → M.1 122 (32 * k + j) = M.1 (4 + k) j) ∧ (eV M ∧ (∀ j, j < 32 → M.1 179 j = 0)) ∧ (rT M ∧ z46 M) ∧ ∀ s, s < 4 → sesR M s
def simR (A B : Int32 × mm_M) : Prop := A.1 = B.1 ∧ ∃ ts rs, pubR B.2 ts rs
theorem pub_tab {M M1 M2 : mm_M} {ts rs : Nat} (h : pubR M ts rs) {L1 L2 : List Nat} (w1 : mm_fr L1 M M1) (l1 : ∀ a ∈ L1, a < 117) (w2 : mm_fr L2 M1 M2) (l2 : ∀ a ∈ L2, 117 ≤ a ∧ a < 173) : eV M2 ∧ (∀ j, j < 32 → M2.1 179 j = 0) := by
  obtain ⟨-, -, -, -, -, ⟨hV, hZ⟩, -⟩ := h
  refine ⟨(hV.fr w1 (fun a q => by have := l1 a q; omega)).fr w2 (fun a q => (l2 a q).2), fun j hj => ?_⟩
  rw [(w2 179 (fun q => by have := l2 _ q; omega)).1, (w1 179 (fun q => by have := l1 _ q; omega)).1]
  exact hZ j hj
/-- the sessions that a call leaves alone -/
theorem pub_ses {M M1 M2 : mm_M} {ts rs : Nat} (h : pubR M ts rs) {L1 L2 : List Nat} (w1 : mm_fr L1 M M1) (l1 : ∀ a ∈ L1, a < 49) (w2 : mm_fr L2 M1 M2) (l2 : ∀ a ∈ L2, 117 ≤ a ∧ a < 157) : ∀ s, s < 4 → sesR M2 s := fun s hs => by
  have e : ∀ k, 49 ≤ k → k < 117 ∨ 157 ≤ k → M2.1 k = M.1 k ∧ M2.2 k = M.2 k := fun k q1 q2 => by
    rw [(w2 k (fun q => by have := l2 _ q; omega)).1, (w2 k (fun q => by have := l2 _ q; omega)).2]
    exact w1 k (fun q => by have := l1 _ q; omega)
  exact (h.2.2.2.2.2.2.2 s hs).keep (fun k q1 q2 => e k (by omega) (by omega)) (fun i _ _ => by rw [(e 157 (by omega) (by omega)).1]) (fun k q1 q2 => by rw [(e k (by omega) (by omega)).1, (e k (by omega) (by omega)).2]; exact ⟨rfl, rfl⟩)
/-- a call that touches no session, no key -/
theorem pr_fin {M M1 M2 : mm_M} {ts rs ts' rs' : Nat} (h : pubR M ts rs) {L1 L2 : List Nat} (w1 : mm_fr L1 M M1) (l1 : ∀ a ∈ L1, a < 49 ∧ (a < 4 ∨ 12 ≤ a)) (w2 : mm_fr L2 M1 M2) (l2 : ∀ a ∈ L2, 117 ≤ a ∧ a < 157 ∧ a ≠ 122 ∧ a ≠ 123 ∧ a ≠ 124) (ht : ts' ≤ 1000) (hr : rs' ≤ 1000) (h1 : M1.1 0 1 = nI ts') (h2 : M2.1 117 4 = nI ts') (h3 : M1.1 0 3 = nI rs') (h4 : M2.1 117 5 = nI rs') (h5 : ∀ j, j < ts' → M2.1 118 j = M1.1 1 j) (h6 : ∀ j, j < rs' → M2.1 121 j = M1.1 2 j) (hz : z46 M2) : pubR M2 ts' rs' := by
  have lo : ∀ k, k < 117 → M2.1 k = M1.1 k := fun k q => (w2 k (fun z => by have := l2 _ z; omega)).1
  refine ⟨⟨ht, hr⟩, ⟨by rw [lo 0 (by omega)]; exact h1, h2, by rw [lo 0 (by omega)]; exact h3, h4⟩, fun j hj => by rw [lo 1 (by omega)]; exact h5 j hj, fun j hj => by rw [lo 2 (by omega)]; exact h6 j hj, fun k hk j hj => ?_, pub_tab h w1 (fun a q => by have := l1 a q; omega) w2 (fun a q => by have := l2 a q; omega), ⟨(h.2.2.2.2.2.2.1.1.fr w1 (fun q => by have := l1 _ q; omega) (fun q => by have := l1 _ q; omega)).fr w2 (fun q => by have := l2 _ q; omega) (fun q => by have := l2 _ q; omega), hz⟩, pub_ses h w1 (fun a q => (l1 a q).1) w2 (fun a q => by have := l2 a q; omega)⟩
  rw [lo (4 + k) (by omega), (w2 122 (fun z => by have := l2 _ z; omega)).1, (w1 122 (fun z => by have := l1 _ z; omega)).1, (w1 (4 + k) (fun z => by have := l1 _ z; omega)).1]
  exact h.2.2.2.2.1 k hk j hj
