/-! the engine's session: transport messages, new keys, a new beginning -/
def sO (k : Nat → Int32) (u : Int64) (pl : Nat → Int32) (n i : Nat) : Int32 := if i < n then aeX k u pl i else aeT k u (fun _ => 0) 0 (fun j => ub (aeX k u pl j)) n (i - n)
def rcOK (k : Nat → Int32) (u : Int64) (m : Nat → Int32) (n : Nat) : Prop := 16 ≤ n ∧ aeOK k u (fun _ => 0) 0 m n
def rkK (k : Nat → Int32) (i : Nat) : Int32 := ccS k (nI 1) (-1) i
def nmF (i : Nat) : Int32 := mm_b (mm_ch i)
def sy0 : sy := (nmF, nmF, nmF, 0, 0)
theorem aeX_0 (k : Nat → Int32) (u : Int64) (src : Nat → Int32) (t : Nat) (h : src t = 0) (ht : t < 64) : aeX k u src t = ccS k (nI 1) u t := by
  unfold aeX
  rw [h, Nat.div_eq_of_lt ht, Nat.mod_eq_of_lt ht, Nat.add_zero]
  unfold ccS
  rw [show ∀ z : Int32, (0 : Int32) ^^^ z = z from fun z => Int32.zero_xor]
  exact mm_bb _
section ET
variable {x p1 : Nat} {M : mm_M} {ini rf : Int32} {S : sy} {os oe xs xe ks kr : Nat → Int32} {ns nr : Int64}
theorem e_snd (hx : 49 ≤ x) (hx2 : x + 16 < 117) (hp : p1 ≤ 900) (h : e_ses M x 3 ini rf S os oe xs xe ks kr ns nr) : (f_X7_sendMessage x p1 M).1 = nI (p1 + 16) ∧ (∀ i, i < p1 + 16 → (f_X7_sendMessage x p1 M).2.1 2 i = sO ks ns (M.1 1) p1 i) ∧ e_ses (f_X7_sendMessage x p1 M).2 x 3 ini rf S os oe xs xe ks kr (ns + 1) nr := by
  have h' := h
  obtain ⟨a1, a2, a3, a4, a5, a6, a7, a8, a9, a10, a11⟩ := h
  obtain ⟨k1, k2, k3, k4⟩ := a9 rfl
  have eq : f_X7_sendMessage x p1 M = f_X3_encryptWithAd (x + 11) 178 1 0 p1 2 0 0 M := rfl
  rw [eq, encA_1 (x + 11) 178 1 0 p1 2 0 0 M (by rw [k1]; decide), a10]
  obtain ⟨g1, g2, g3⟩ := e_seal (x + 12) 178 0 1 0 p1 2 0 ns M (by omega) (by omega) (by omega) (by omega) (by omega) (by decide) (by omega)
  rw [show x + 12 = x + 11 + 1 from rfl] at g1 g2 g3 k3
  have w : mm_fr [34, 35, 33, 37, 40, 38, 39, 31, 2, 41] M (f_X0_encrypt 1 0 p1 2 0 (f_X0_associate 178 0 (f_X0_begin (x + 11 + 1) ns M))) := (w_f_X0_encrypt _ _ _ _ _ _).on (by simp) ((w_f_X0_associate _ _ _).on (by simp) ((w_f_X0_begin _ _ _).on (by simp) (mm_fr_refl _ _)))
  generalize f_X0_encrypt 1 0 p1 2 0 (f_X0_associate 178 0 (f_X0_begin (x + 11 + 1) ns M)) = N at *
  have e4 : N.2 (x + 11) 4 = ns := by rw [(w (x + 11) (by simp <;> omega)).2]; exact a10
  simp only [Nat.zero_add] at g1 g2
  refine ⟨rfl, fun i hi => ?_, ?_⟩
  · show N.1 2 i = _
    unfold sO
    by_cases c : i < p1
    · rw [if_pos c, g1 i c]
      exact aeX_congr k3 rfl
    · rw [if_neg c]
      have := g2 (i - p1) (by omega)
      rw [show p1 + (i - p1) = i from by omega] at this
      rw [this]
      exact aeT_congr k3 (fun j hj => absurd hj (by omega)) (fun j hj => by rw [aeX_congr k3 rfl]) _
  · have hN : e_ses N x 3 ini rf S os oe xs xe ks kr ns nr := h'.keep (fun k q1 q2 => w k (by simp <;> omega))
    obtain ⟨b1, b2, b3, b4, b5, b6, b7, b8, b9, b10, b11⟩ := hN
    have wv : mm_fr [x + 11] N (mm_wl N (x + 11) 4 (N.2 (x + 11) 4 + 1)) := mm_fr_wl (by simp) (mm_fr_refl _ _)
    refine ⟨b1, b2, b3, b4.fr wv (by simp <;> omega) (by simp <;> omega) (by simp <;> omega) (by simp <;> omega), b5, b6, b7, b8, b9, ?_, ?_⟩
    · rw [rd_wlS, e4]
    · rw [(wv (x + 14) (by simp <;> omega)).2]; exact b11
theorem rcB_1 (x : Nat) (M : mm_M) (v : Int32) (h : ¬ v = -1) : f_X7_receiveMessage_B1 x M v = (v, M) := by
  unfold f_X7_receiveMessage_B1
  rw [if_pos h]
theorem rcB_0 (x : Nat) (M : mm_M) (v : Int32) (h : v = -1) : f_X7_receiveMessage_B1 x M v = (v, mm_w M x 11 (M.1 x 11 + 1)) := by
  unfold f_X7_receiveMessage_B1
  rw [if_neg (fun q => q h)]
theorem e_rf {st : Nat} (h : e_ses M x st ini rf S os oe xs xe ks kr ns nr) : e_ses (mm_w M x 11 (M.1 x 11 + 1)) x st ini (rf + 1) S os oe xs xe ks kr ns nr := by
  have wv : mm_fr [x] M (mm_w M x 11 (M.1 x 11 + 1)) := mm_fr_w (by simp) (mm_fr_refl _ _)
  obtain ⟨a1, a2, a3, a4, a5, a6, a7, a8, a9, a10, a11⟩ := h
  refine ⟨?_, ?_, ?_, a4.fr wv (by simp <;> omega) (by simp <;> omega) (by simp <;> omega) (by simp <;> omega), ?_, ?_, ?_, ?_, ?_, ?_, ?_⟩
  · rw [rd_wN _ _ _ _ (Or.inr (by decide))]; exact a1
  · rw [rd_wN _ _ _ _ (Or.inr (by decide))]; exact a2
  · rw [rd_wS, a3]
  · rw [(wv (x + 1) (by simp <;> omega)).1]; exact a5
  · rw [(wv (x + 2) (by simp <;> omega)).1]; exact a6
  · rw [(wv (x + 3) (by simp <;> omega)).1]; exact a7
  · rw [(wv (x + 4) (by simp <;> omega)).1]; exact a8
  · rw [(wv (x + 11) (by simp <;> omega)).1, (wv (x + 14) (by simp <;> omega)).1, (wv (x + 12) (by simp <;> omega)).1, (wv (x + 15) (by simp <;> omega)).1]; exact a9
  · exact a10
  · exact a11
theorem e_rcv (hx : 49 ≤ x) (hx2 : x + 16 < 117) (hp : p1 ≤ 1000) (h : e_ses M x 3 ini rf S os oe xs xe ks kr ns nr) : (rcOK kr nr (M.1 1) p1 → (f_X7_receiveMessage x p1 M).1 = nI (p1 - 16) ∧ (∀ i, i < p1 - 16 → (f_X7_receiveMessage x p1 M).2.1 2 i = aeX kr nr (M.1 1) i) ∧ e_ses (f_X7_receiveMessage x p1 M).2 x 3 ini rf S os oe xs xe ks kr ns (nr + 1)) ∧ (¬ rcOK kr nr (M.1 1) p1 → (f_X7_receiveMessage x p1 M).1 = -1 ∧ (f_X7_receiveMessage x p1 M).2.1 2 = M.1 2 ∧ e_ses (f_X7_receiveMessage x p1 M).2 x 3 ini (rf + 1) S os oe xs xe ks kr ns nr) := by
  have h' := h
  obtain ⟨a1, a2, a3, a4, a5, a6, a7, a8, a9, a10, a11⟩ := h
  obtain ⟨k1, k2, k3, k4⟩ := a9 rfl
  have eq : f_X7_receiveMessage x p1 M = f_X7_receiveMessage_B1 x (f_X3_decryptWithAd (x + 14) 178 1 0 p1 2 0 0 M).2 (f_X3_decryptWithAd (x + 14) 178 1 0 p1 2 0 0 M).1 := rfl
  rw [eq, decA_1 (x + 14) 178 1 0 p1 2 0 0 M (by rw [k2]; decide), a11]
  rw [show x + 15 = x + 14 + 1 from rfl] at k4
  have w : mm_fr [34, 35, 33, 37, 40, 38, 39, 31, 41, 2] M (f_X0_decrypt 1 0 p1 2 0 (f_X0_associate 178 0 (f_X0_begin (x + 14 + 1) nr M))).2 := (w_f_X0_decrypt _ _ _ _ _ _).m.on (by simp) ((w_f_X0_associate _ _ _).on (by simp) ((w_f_X0_begin _ _ _).on (by simp) (mm_fr_refl _ _)))
  have fail : ∀ N : mm_M, mm_fr [34, 35, 33, 37, 40, 38, 39, 31, 41, 2] M N → N.1 2 = M.1 2 → (f_X7_receiveMessage_B1 x N (-1)).1 = -1 ∧ (f_X7_receiveMessage_B1 x N (-1)).2.1 2 = M.1 2 ∧ e_ses (f_X7_receiveMessage_B1 x N (-1)).2 x 3 ini (rf + 1) S os oe xs xe ks kr ns nr := fun N wN h2 => by
    rw [rcB_0 x N (-1) rfl]
    refine ⟨rfl, ?_, e_rf (h'.keep (fun k q1 q2 => wN k (by simp <;> omega)))⟩
    rw [(mm_fr_w (L := [x]) (by simp) (mm_fr_refl _ _) 2 (by simp <;> omega)).1]; exact h2
  by_cases h16 : 16 ≤ p1
  · obtain ⟨o1, o2⟩ := e_open (x + 14 + 1) 178 0 1 0 p1 2 0 nr M (by omega) (by omega) (by omega) (by omega) (by omega) (by decide) (by omega) h16
    have okc : aeOK (M.1 (x + 14 + 1)) nr (fun j => ub (M.1 178 j)) 0 (fun j => M.1 1 (0 + j)) p1 ↔ aeOK kr nr (fun _ => 0) 0 (M.1 1) p1 := aeOK_congr k4 (fun j hj => absurd hj (by omega)) h16 (fun j _ => by rw [Nat.zero_add])
    generalize f_X0_decrypt 1 0 p1 2 0 (f_X0_associate 178 0 (f_X0_begin (x + 14 + 1) nr M)) = X at *
    obtain ⟨v, N⟩ := X
    dsimp only at *
    by_cases g : aeOK kr nr (fun _ => 0) 0 (M.1 1) p1
    · refine ⟨fun _ => ?_, fun q => absurd ⟨h16, g⟩ q⟩
      obtain ⟨v1, v2⟩ := o1 (okc.mpr g)
      subst v1
      rw [decA_B1 (x + 14) p1 N 1 (by decide), nI_sub16 p1 h16 (by omega)]
      rw [rcB_1 x _ _ (nI_neg1 _ (by omega))]
      have e4 : N.2 (x + 14) 4 = nr := by rw [(w (x + 14) (by simp <;> omega)).2]; exact a11
      refine ⟨rfl, fun i hi => ?_, ?_⟩
      · show N.1 2 i = _
        rw [v2 i, if_pos (by omega), Nat.sub_zero]
        exact aeX_congr k4 (by rw [Nat.zero_add])
      · have hN : e_ses N x 3 ini rf S os oe xs xe ks kr ns nr := h'.keep (fun k q1 q2 => w k (by simp <;> omega))
        obtain ⟨b1, b2, b3, b4, b5, b6, b7, b8, b9, b10, b11⟩ := hN
        have wv : mm_fr [x + 14] N (mm_wl N (x + 14) 4 (N.2 (x + 14) 4 + 1)) := mm_fr_wl (by simp) (mm_fr_refl _ _)
        refine ⟨b1, b2, b3, b4.fr wv (by simp <;> omega) (by simp <;> omega) (by simp <;> omega) (by simp <;> omega), b5, b6, b7, b8, b9, ?_, ?_⟩
        · rw [(wv (x + 11) (by simp <;> omega)).2]; exact b10
        · rw [rd_wlS, e4]
    · refine ⟨fun q => absurd q.2 g, fun _ => ?_⟩
      obtain ⟨v1, v2⟩ := o2 (fun q => g (okc.mp q))
      subst v1
      rw [decA_B0 (x + 14) p1 N 0 rfl]
      exact fail N w v2
  · refine ⟨fun q => absurd q.1 h16, fun _ => ?_⟩
    rw [dec_lo 1 0 p1 2 0 _ (by omega)] at w ⊢
    have w : mm_fr [34, 35, 33, 37, 40, 38, 39, 31, 41] M (f_X0_associate 178 0 (f_X0_begin (x + 14 + 1) nr M)) := (w_f_X0_associate _ _ _).on (by simp) ((w_f_X0_begin _ _ _).on (by simp) (mm_fr_refl _ _))
    generalize f_X0_associate 178 0 (f_X0_begin (x + 14 + 1) nr M) = N at *
    rw [decA_B0 (x + 14) p1 N 0 rfl]
    exact fail N (w.on (by simp) (mm_fr_refl _ _)) (w 2 (by decide)).1
theorem e_rnw (z : Nat) (hz : 49 ≤ z) (hz2 : z + 2 < 117) (key : Nat → Int32) (hZ : ∀ j, j < 32 → M.1 179 j = 0) (h : ∀ j, j < 32 → M.1 (z + 1) j = key j) : ∀ j, j < 32 → (f_X3_renewKey z M).1 (z + 1) j = rkK key j := by
  intro j hj
  unfold f_X3_renewKey
  try dsimp only
  obtain ⟨g1, -, -⟩ := e_seal (z + 1) 178 0 179 0 32 (z + 2) 0 (-1) M (by omega) (by omega) (by omega) (by omega) (by omega) (by decide) (by omega)
  generalize f_X0_encrypt 179 0 32 (z + 2) 0 (f_X0_associate 178 0 (f_X0_begin (z + 1) (-1) M)) = N at *
  have := rd_cpS N (z + 2) 0 (z + 1) 0 32 hj
  simp only [Nat.zero_add] at this g1
  rw [this, g1 j hj, aeX_congr h rfl, aeX_0 _ _ _ _ (hZ j hj) (by omega)]
  rfl
theorem e_rkS (hx : 49 ≤ x) (hx2 : x + 16 < 117) (v1 : Int32) (hv : ¬ v1 = 0) (hZ : ∀ j, j < 32 → M.1 179 j = 0) (h : e_ses M x 3 ini rf S os oe xs xe ks kr ns nr) : e_ses (f_X7_renewKey x v1 M) x 3 ini rf S os oe xs xe (rkK ks) kr ns nr := by
  obtain ⟨a1, a2, a3, a4, a5, a6, a7, a8, a9, a10, a11⟩ := h
  obtain ⟨k1, k2, k3, k4⟩ := a9 rfl
  have eq : f_X7_renewKey x v1 M = f_X3_renewKey (x + 11) M := by unfold f_X7_renewKey; rw [if_neg hv]
  rw [eq]
  have g := e_rnw (M := M) (x + 11) (by omega) (by omega) ks hZ k3
  have w := w_f_X3_renewKey (x + 11) M
  generalize f_X3_renewKey (x + 11) M = N at *
  refine ⟨?_, ?_, ?_, a4.fr w (by simp <;> omega) (by simp <;> omega) (by simp <;> omega) (by simp <;> omega), ?_, ?_, ?_, ?_, fun _ => ⟨?_, ?_, g, ?_⟩, ?_, ?_⟩
  · rw [(w x (by simp <;> omega)).1]; exact a1
  · rw [(w x (by simp <;> omega)).1]; exact a2
  · rw [(w x (by simp <;> omega)).1]; exact a3
  · rw [(w (x + 1) (by simp <;> omega)).1]; exact a5
  · rw [(w (x + 2) (by simp <;> omega)).1]; exact a6
  · rw [(w (x + 3) (by simp <;> omega)).1]; exact a7
  · rw [(w (x + 4) (by simp <;> omega)).1]; exact a8
  · rw [(w (x + 11) (by simp <;> omega)).1]; exact k1
  · rw [(w (x + 14) (by simp <;> omega)).1]; exact k2
  · rw [(w (x + 15) (by simp <;> omega)).1]; exact k4
  · rw [(w (x + 11) (by simp <;> omega)).2]; exact a10
  · rw [(w (x + 14) (by simp <;> omega)).2]; exact a11
theorem e_rkR (hx : 49 ≤ x) (hx2 : x + 16 < 117) (v1 : Int32) (hv : v1 = 0) (hZ : ∀ j, j < 32 → M.1 179 j = 0) (h : e_ses M x 3 ini rf S os oe xs xe ks kr ns nr) : e_ses (f_X7_renewKey x v1 M) x 3 ini rf S os oe xs xe ks (rkK kr) ns nr := by
  obtain ⟨a1, a2, a3, a4, a5, a6, a7, a8, a9, a10, a11⟩ := h
  obtain ⟨k1, k2, k3, k4⟩ := a9 rfl
  have eq : f_X7_renewKey x v1 M = f_X3_renewKey (x + 14) M := by unfold f_X7_renewKey; rw [if_pos hv]
  rw [eq]
  have g := e_rnw (M := M) (x + 14) (by omega) (by omega) kr hZ k4
  have w := w_f_X3_renewKey (x + 14) M
  generalize f_X3_renewKey (x + 14) M = N at *
  refine ⟨?_, ?_, ?_, a4.fr w (by simp <;> omega) (by simp <;> omega) (by simp <;> omega) (by simp <;> omega), ?_, ?_, ?_, ?_, fun _ => ⟨?_, ?_, ?_, g⟩, ?_, ?_⟩
  · rw [(w x (by simp <;> omega)).1]; exact a1
  · rw [(w x (by simp <;> omega)).1]; exact a2
  · rw [(w x (by simp <;> omega)).1]; exact a3
  · rw [(w (x + 1) (by simp <;> omega)).1]; exact a5
  · rw [(w (x + 2) (by simp <;> omega)).1]; exact a6
  · rw [(w (x + 3) (by simp <;> omega)).1]; exact a7
  · rw [(w (x + 4) (by simp <;> omega)).1]; exact a8
  · rw [(w (x + 11) (by simp <;> omega)).1]; exact k1
  · rw [(w (x + 14) (by simp <;> omega)).1]; exact k2
  · rw [(w (x + 12) (by simp <;> omega)).1]; exact k3
  · rw [(w (x + 11) (by simp <;> omega)).2]; exact a10
  · rw [(w (x + 14) (by simp <;> omega)).2]; exact a11
end ET
theorem e_ini (y : Nat) (σ : mm_M) : ∀ t i, i < t → (f_X10_initialize_L2 y σ t).1 (y + 1) i = nmF i ∧ (f_X10_initialize_L2 y σ t).1 (y + 2) i = nmF i
  | 0, i, h => absurd h (by omega)
  | t + 1, i, h => by
    rw [f_X10_initialize_L2]
    try dsimp only
    have ih := e_ini y σ t i
    generalize f_X10_initialize_L2 y σ t = R at *
    by_cases c : i = t
    · subst c
      rw [rd_wN _ _ _ _ (Or.inl (by omega)), rd_wS, rd_wS]
      exact ⟨rfl, rfl⟩
    · rw [rd_wN _ _ _ _ (Or.inl (by omega)), rd_wN _ _ _ _ (Or.inr c), rd_wN _ _ _ _ (Or.inr c), rd_wN _ _ _ _ (Or.inl (by omega))]
      exact ih (by omega)
theorem e_bgn (x : Nat) (v1 : Int32) (k1 k2 p1 : Nat) (hx : 49 ≤ x) (hx2 : x + 16 < 117) (hk1 : 4 ≤ k1 ∧ k1 < 12) (hk2 : 4 ≤ k2 ∧ k2 < 12) (hp : p1 ≤ 1000) (M : mm_M) (hV : eV M) (xs xe ks kr : Nat → Int32) : e_ses (f_X7_begin x v1 k1 k2 p1 M) x 0 v1 0 (syH sy0 (fun j => ub (M.1 1 j)) p1) (M.1 k1) (M.1 k2) xs xe ks kr 0 0 := by
  have w := w_f_X7_begin x v1 k1 k2 p1 M
  unfold f_X7_begin f_X10_initialize f_X3_forgetKey at *
  try dsimp only at *
  have x3 : (mm_w (mm_w (mm_w M x 9 v1) x 10 0) x 11 0).1 x 9 = v1 ∧ (mm_w (mm_w (mm_w M x 9 v1) x 10 0) x 11 0).1 x 10 = nI 0 ∧ (mm_w (mm_w (mm_w M x 9 v1) x 10 0) x 11 0).1 x 11 = 0 := by
    refine ⟨?_, ?_, ?_⟩
    · rw [rd_wN _ _ _ _ (Or.inr (by decide)), rd_wN _ _ _ _ (Or.inr (by decide)), rd_wS]
    · rw [rd_wN _ _ _ _ (Or.inr (by decide)), rd_wS]; rfl
    · rw [rd_wS]
  have w3 : mm_fr [x] M (mm_w (mm_w (mm_w M x 9 v1) x 10 0) x 11 0) := mm_fr_w (by simp) (mm_fr_w (by simp) (mm_fr_w (by simp) (mm_fr_refl _ _)))
  generalize mm_w (mm_w (mm_w M x 9 v1) x 10 0) x 11 0 = M3 at *
  have r4 : ∀ j, j < 32 → (mm_cp M3 k1 0 (x + 1) 0 32).1 (x + 1) j = M.1 k1 j := fun j hj => by
    have := rd_cpS M3 k1 0 (x + 1) 0 32 hj
    simp only [Nat.zero_add] at this
    rw [this, (w3 k1 (by simp <;> omega)).1]
  have w4 : mm_fr [x + 1] M3 (mm_cp M3 k1 0 (x + 1) 0 32) := mm_fr_cp (by simp) (mm_fr_refl _ _)
  generalize mm_cp M3 k1 0 (x + 1) 0 32 = M4 at *
  have r5 : ∀ j, j < 32 → (mm_cp M4 k2 0 (x + 2) 0 32).1 (x + 2) j = M.1 k2 j := fun j hj => by
    have := rd_cpS M4 k2 0 (x + 2) 0 32 hj
    simp only [Nat.zero_add] at this
    rw [this, (w4 k2 (by simp <;> omega)).1, (w3 k2 (by simp <;> omega)).1]
  have w5 : mm_fr [x + 2] M4 (mm_cp M4 k2 0 (x + 2) 0 32) := mm_fr_cp (by simp) (mm_fr_refl _ _)
  generalize mm_cp M4 k2 0 (x + 2) 0 32 = M5 at *
  have r6 : (mm_wl (mm_w M5 (x + 11) 3 0) (x + 11) 4 0).2 (x + 11) 4 = 0 := rd_wlS _ _ _ _
  have w6 : mm_fr [x + 11] M5 (mm_wl (mm_w M5 (x + 11) 3 0) (x + 11) 4 0) := mm_fr_wl (by simp) (mm_fr_w (by simp) (mm_fr_refl _ _))
  generalize mm_wl (mm_w M5 (x + 11) 3 0) (x + 11) 4 0 = M6 at *
  have r7 : (mm_wl (mm_w M6 (x + 14) 3 0) (x + 14) 4 0).2 (x + 14) 4 = 0 := rd_wlS _ _ _ _
  have w7 : mm_fr [x + 14] M6 (mm_wl (mm_w M6 (x + 14) 3 0) (x + 14) 4 0) := mm_fr_wl (by simp) (mm_fr_w (by simp) (mm_fr_refl _ _))
  generalize mm_wl (mm_w M6 (x + 14) 3 0) (x + 14) 4 0 = M7 at *
  have r8 := fun i hi => e_ini (x + 5) M7 32 i hi
  have w8 := w_f_X10_initialize_L2 (x + 5) M7 32
  generalize f_X10_initialize_L2 (x + 5) M7 32 = M8 at *
  have w9 : mm_fr [x + 5 + 3] M8 (mm_wl (mm_w M8 (x + 5 + 3) 3 0) (x + 5 + 3) 4 0) := mm_fr_wl (by simp) (mm_fr_w (by simp) (mm_fr_refl _ _))
  have s9 : e_sy (mm_wl (mm_w M8 (x + 5 + 3) 3 0) (x + 5 + 3) 4 0) (x + 5) sy0 := by
    refine ⟨fun j hj => ?_, fun j hj => ?_, fun q => absurd rfl q, ?_, ?_⟩
    · rw [(w9 (x + 5 + 1) (by simp <;> omega)).1]; exact (r8 j hj).1
    · rw [(w9 (x + 5 + 2) (by simp <;> omega)).1]; exact (r8 j hj).2
    · rw [rd_wl1, rd_wS]; rfl
    · rw [rd_wlS]; rfl
  generalize mm_wl (mm_w M8 (x + 5 + 3) 3 0) (x + 5 + 3) 4 0 = M9 at *
  have f9 : mm_fr [x, x + 1, x + 2, x + 11, x + 14, x + 6, x + 7, x + 8] M M9 := w9.on (by simp <;> omega) (w8.on (by simp <;> omega) (w7.on (by simp <;> omega) (w6.on (by simp <;> omega) (w5.on (by simp <;> omega) (w4.on (by simp <;> omega) (w3.on (by simp <;> omega) (mm_fr_refl _ _)))))))
  have m := e_mixHash (x + 5) 1 0 p1 (by omega) (by decide) (by omega) M9 sy0 (hV.fr f9 (by simp <;> omega)).1 s9
  simp only [Nat.zero_add, (f9 1 (by simp <;> omega)).1] at m
  have w10 := w_f_X10_mixHash (x + 5) 1 0 p1 M9
  generalize f_X10_mixHash (x + 5) 1 0 p1 M9 = N at *
  have fx : N.1 x = M3.1 x := by rw [(w10 x (by simp <;> omega)).1, (w9 x (by simp <;> omega)).1, (w8 x (by simp <;> omega)).1, (w7 x (by simp <;> omega)).1, (w6 x (by simp <;> omega)).1, (w5 x (by simp <;> omega)).1, (w4 x (by simp <;> omega)).1]
  refine ⟨?_, ?_, ?_, m, ?_, ?_, ?_, ?_, fun q => by omega, ?_, ?_⟩
  · rw [fx]; exact x3.1
  · rw [fx]; exact x3.2.1
  · rw [fx]; exact x3.2.2
  · rw [(w10 _ (by simp <;> omega)).1, (w9 _ (by simp <;> omega)).1, (w8 _ (by simp <;> omega)).1, (w7 _ (by simp <;> omega)).1, (w6 _ (by simp <;> omega)).1, (w5 _ (by simp <;> omega)).1]; exact r4
  · rw [(w10 _ (by simp <;> omega)).1, (w9 _ (by simp <;> omega)).1, (w8 _ (by simp <;> omega)).1, (w7 _ (by simp <;> omega)).1, (w6 _ (by simp <;> omega)).1]; exact r5
  · intro q
    unfold knS at q
    by_cases c : v1 = 0
    · rw [if_pos c] at q; omega
    · rw [if_neg c] at q; omega
  · intro q
    unfold knE at q
    by_cases c : v1 = 0
    · rw [if_pos c] at q; omega
    · rw [if_neg c] at q; omega
  · rw [(w10 _ (by simp <;> omega)).2, (w9 _ (by simp <;> omega)).2, (w8 _ (by simp <;> omega)).2, (w7 _ (by simp <;> omega)).2]; exact r6
  · rw [(w10 _ (by simp <;> omega)).2, (w9 _ (by simp <;> omega)).2, (w8 _ (by simp <;> omega)).2]; exact r7
