/-! Poly1305 in the engine: its end -/
theorem p_r6 (M : mm_M) (hb : ∀ i, i < 5 → 0 ≤ lg M 38 i ∧ lg M 38 i ≤ 4294967296) : ∀ t, t ≤ 5 → (0 ≤ (f_X6_reduce_L6 M 5 t).toInt ∧ (f_X6_reduce_L6 M 5 t).toInt ≤ 128) ∧ ∃ r, 0 ≤ r ∧ r < w26 t ∧ ws w26 (lg M 38) t + 5 = (f_X6_reduce_L6 M 5 t).toInt * w26 t + r
  | 0, _ => ⟨⟨show 0 ≤ (5 : Int64).toInt by decide, show (5 : Int64).toInt ≤ 128 by decide⟩, 0, by decide, by decide, show (0 : Int) + 5 = (5 : Int64).toInt * 1 + 0 by decide⟩
  | t + 1, ht => by
    obtain ⟨h1, r, h2, h3, h4⟩ := p_r6 M hb t (by omega)
    rw [f_X6_reduce_L6]
    generalize f_X6_reduce_L6 M 5 t = y at *
    have hl := hb t (by omega)
    have hg : lg M 38 t = (M.2 38 t).toInt := rfl
    rw [hg] at hl
    have i1 := (show nb (M.2 38 t) _ 4294967296 from ⟨rfl, hl.1, hl.2⟩).add (show nb y _ 128 from ⟨rfl, h1.1, h1.2⟩) (by decide)
    have i2 := l_ul (x := M.2 38 t + y) 26 26 (by decide) (by decide) (by rw [i1.1]; omega)
    rw [i1.1, show (2 : Int) ^ 26 = 67108864 from by decide] at i2
    rw [i2]
    have d1 := Int.mul_ediv_add_emod ((M.2 38 t).toInt + y.toInt) 67108864
    have d2 : 0 ≤ ((M.2 38 t).toInt + y.toInt) % 67108864 ∧ ((M.2 38 t).toInt + y.toInt) % 67108864 ≤ 67108863 := by omega
    refine ⟨by omega, ((M.2 38 t).toInt + y.toInt) % 67108864 * w26 t + r, ?_, ?_, ?_⟩
    · have : 0 ≤ ((M.2 38 t).toInt + y.toInt) % 67108864 * w26 t := Int.mul_nonneg d2.1 (by omega)
      omega
    · have : ((M.2 38 t).toInt + y.toInt) % 67108864 * w26 t ≤ 67108863 * w26 t := Int.mul_le_mul_of_nonneg_right d2.2 (by omega)
      rw [w26_s]
      omega
    · rw [ws, hg, w26_s]
      generalize ws w26 (lg M 38) t = S at *
      generalize ((M.2 38 t).toInt + y.toInt) % 67108864 = Rm at *
      generalize ((M.2 38 t).toInt + y.toInt) / 67108864 = Q at *
      generalize w26 t = W at *
      clear i1 i2 d2 hb
      have : (67108864 * Q + Rm) * W = ((M.2 38 t).toInt + y.toInt) * W := by rw [d1]
      grind
theorem p_r45 (σ : mm_M) (h0 : 0 ≤ lg σ 38 0 ∧ lg σ 38 0 ≤ 8589934592) (hb : ∀ i, 1 ≤ i → i < 5 → 0 ≤ lg σ 38 i ∧ lg σ 38 i ≤ 67108863) : ∀ t, t ≤ 4 → (∀ i, i < t → 0 ≤ lg (f_X6_reduce_L45 σ t) 38 i ∧ lg (f_X6_reduce_L45 σ t) 38 i ≤ 67108863) ∧ (0 ≤ lg (f_X6_reduce_L45 σ t) 38 t ∧ lg (f_X6_reduce_L45 σ t) 38 t ≤ 8589934592) ∧ (∀ i, t < i → lg (f_X6_reduce_L45 σ t) 38 i = lg σ 38 i) ∧ ws w26 (lg (f_X6_reduce_L45 σ t) 38) 5 = ws w26 (lg σ 38) 5
  | 0, _ => ⟨fun i hi => absurd hi (by omega), h0, fun _ _ => rfl, rfl⟩
  | t + 1, ht => by
    obtain ⟨g1, g2, g3, g4⟩ := p_r45 σ h0 hb t (by omega)
    rw [f_X6_reduce_L45]
    generalize f_X6_reduce_L45 σ t = R at *
    have hn := hb (t + 1) (by omega) (by omega)
    rw [← g3 (t + 1) (by omega)] at hn
    have ha : lg R 38 t = (R.2 38 t).toInt := rfl
    have hc : lg R 38 (t + 1) = (R.2 38 (t + 1)).toInt := rfl
    have i2 := l_ul (x := R.2 38 t) 26 26 (by decide) (by decide) (by rw [← ha]; exact g2.1)
    rw [show (2 : Int) ^ 26 = 67108864 from by decide, ← ha] at i2
    have i3 := (show nb (R.2 38 (t + 1)) (lg R 38 (t + 1)) 67108863 from ⟨rfl, hn⟩).add (show nb (mm_ul (R.2 38 t) 26) (lg R 38 t / 67108864) 128 from ⟨i2, by omega, by omega⟩) (by decide)
    rw [rd_wlN _ _ _ _ (show 38 ≠ 38 ∨ t ≠ t + 1 from Or.inr (by omega))]
    have i4 := l_and (R.2 38 t) 67108863 26 (by decide) (by decide)
    rw [show (2 : Int) ^ 26 = 67108864 from by decide, ← ha] at i4
    generalize R.2 38 (t + 1) + mm_ul (R.2 38 t) 26 = Z at *
    generalize R.2 38 t &&& 67108863 = Y at *
    have r0 : lg (mm_wl (mm_wl R 38 (t + 1) Z) 38 t Y) 38 t = lg R 38 t % 67108864 := by
      show (_ : Int64).toInt = _
      rw [rd_wlS]; exact i4
    have r1 : lg (mm_wl (mm_wl R 38 (t + 1) Z) 38 t Y) 38 (t + 1) = lg R 38 (t + 1) + lg R 38 t / 67108864 := by
      show (_ : Int64).toInt = _
      rw [rd_wlN _ _ _ _ (Or.inr (by omega)), rd_wlS]; exact i3.1
    have ro : ∀ i, i ≠ t → i ≠ t + 1 → lg (mm_wl (mm_wl R 38 (t + 1) Z) 38 t Y) 38 i = lg R 38 i := fun i a b => by
      show (_ : Int64).toInt = _
      rw [rd_wlN _ _ _ _ (Or.inr a), rd_wlN _ _ _ _ (Or.inr b)]; rfl
    generalize mm_wl (mm_wl R 38 (t + 1) Z) 38 t Y = N at *
    refine ⟨fun i hi => ?_, ?_, fun i hi => ?_, ?_⟩
    · by_cases e : i = t
      · rw [e, r0]; omega
      · rw [ro i e (by omega)]; exact g1 i (by omega)
    · rw [r1]; omega
    · rw [ro i (by omega) (by omega)]; exact g3 i (by omega)
    · rw [ws_two (w := w26) (a := lg R 38) (k := t) (n := 5) (x := -(67108864 * (lg R 38 t / 67108864))) (y := lg R 38 t / 67108864) (by omega) (fun i hi => by
        by_cases e : i = t
        · rw [if_pos e, e, r0]; omega
        · rw [if_neg e]
          by_cases e1 : i = t + 1
          · rw [if_pos e1, e1, r1]
          · rw [if_neg e1, ro i e e1]), g4, w26_s]
      generalize w26 t = W
      generalize lg R 38 t / 67108864 = Q
      generalize ws w26 (lg σ 38) 5 = S
      clear g1 g2 g3 g4 i2 i3 i4 r0 r1 ro hb h0
      grind
theorem w26_5 : w26 5 = 1361129467683753853853498429727072845824 := by decide
theorem p_red (M : mm_M) (h0 : 0 ≤ lg M 38 0 ∧ lg M 38 0 ≤ 4294967296) (hb : ∀ i, 1 ≤ i → i < 5 → 0 ≤ lg M 38 i ∧ lg M 38 i ≤ 67108863) : (∀ i, i < 5 → 0 ≤ lg (f_X6_reduce M) 38 i ∧ lg (f_X6_reduce M) 38 i ≤ 67108863) ∧ ws w26 (lg (f_X6_reduce M) 38) 5 = ws w26 (lg M 38) 5 % pQ := by
  have hba : ∀ i, i < 5 → 0 ≤ lg M 38 i ∧ lg M 38 i ≤ 4294967296 := fun i hi => by
    by_cases e : i = 0
    · rw [e]; exact h0
    · have := hb i (by omega) hi; omega
  obtain ⟨y1, r, y2, y3, y4⟩ := p_r6 M hba 5 (by decide)
  have vb : 0 ≤ ws w26 (lg M 38) 5 ∧ ws w26 (lg M 38) 5 ≤ 1361129467683753853853498429727072845824 + 4294967296 := by
    rw [ws26_5]
    have b1 := hb 1 (by decide) (by decide)
    have b2 := hb 2 (by decide) (by decide)
    have b3 := hb 3 (by decide) (by decide)
    have b4 := hb 4 (by decide) (by decide)
    generalize lg M 38 0 = a0 at *
    generalize lg M 38 1 = a1 at *
    generalize lg M 38 2 = a2 at *
    generalize lg M 38 3 = a3 at *
    generalize lg M 38 4 = a4 at *
    clear hb hba y4
    constructor <;> omega
  unfold f_X6_reduce
  try dsimp only
  generalize f_X6_reduce_L6 M 5 5 = y at *
  have hg : lg M 38 0 = (M.2 38 0).toInt := rfl
  have i1 := (show nb (M.2 38 0) (lg M 38 0) 4294967296 from ⟨rfl, h0⟩).add ((show nb 5 5 5 from ⟨rfl, by decide, by decide⟩).mul (show nb y _ 128 from ⟨rfl, y1.1, y1.2⟩) (by decide)) (by decide)
  generalize M.2 38 0 + 5 * y = Z at *
  have r0 : lg (mm_wl M 38 0 Z) 38 0 = lg M 38 0 + 5 * y.toInt := by
    show (_ : Int64).toInt = _
    rw [rd_wlS]; exact i1.1
  have ro : ∀ i, i ≠ 0 → lg (mm_wl M 38 0 Z) 38 i = lg M 38 i := fun i hi => by
    show (_ : Int64).toInt = _
    rw [rd_wlN _ _ _ _ (Or.inr hi)]; rfl
  have v3 : ws w26 (lg (mm_wl M 38 0 Z) 38) 5 = ws w26 (lg M 38) 5 + 5 * y.toInt := by
    rw [ws_upd (w := w26) (a := lg M 38) (k := 0) (x := 5 * y.toInt) (n := 5) (by decide) (fun i hi => by
      by_cases e : i = 0
      · rw [if_pos e, e, r0]
      · rw [if_neg e, ro i e]), show w26 0 = 1 from rfl]
    omega
  generalize mm_wl M 38 0 Z = N at *
  obtain ⟨g1, g2, -, g4⟩ := p_r45 N (by rw [r0]; omega) (fun i a b => by rw [ro i (by omega)]; exact hb i a b) 4 (by decide)
  generalize f_X6_reduce_L45 N 4 = R at *
  have i4 := l_and (R.2 38 4) 67108863 26 (by decide) (by decide)
  rw [show (2 : Int) ^ 26 = 67108864 from by decide] at i4
  have ha : lg R 38 4 = (R.2 38 4).toInt := rfl
  rw [← ha] at i4
  generalize R.2 38 4 &&& 67108863 = Y at *
  have q4 : lg (mm_wl R 38 4 Y) 38 4 = lg R 38 4 % 67108864 := by
    show (_ : Int64).toInt = _
    rw [rd_wlS]; exact i4
  have qo : ∀ i, i ≠ 4 → lg (mm_wl R 38 4 Y) 38 i = lg R 38 i := fun i hi => by
    show (_ : Int64).toInt = _
    rw [rd_wlN _ _ _ _ (Or.inr hi)]; rfl
  have v5 : ws w26 (lg (mm_wl R 38 4 Y) 38) 5 = ws w26 (lg R 38) 5 + -(67108864 * (lg R 38 4 / 67108864)) * w26 4 := ws_upd (by decide) (fun i hi => by
      by_cases e : i = 4
      · rw [if_pos e, e, q4]; omega
      · rw [if_neg e, qo i e])
  generalize mm_wl R 38 4 Y = T at *
  have lim : ∀ i, i < 5 → 0 ≤ lg T 38 i ∧ lg T 38 i ≤ 67108863 := fun i hi => by
    by_cases e : i = 4
    · rw [e, q4]; omega
    · rw [qo i e]; exact g1 i (by omega)
  refine ⟨lim, ?_⟩
  have tb : 0 ≤ ws w26 (lg T 38) 5 ∧ ws w26 (lg T 38) 5 < 1361129467683753853853498429727072845824 := by
    rw [ws26_5]
    have b0 := lim 0 (by decide)
    have b1 := lim 1 (by decide)
    have b2 := lim 2 (by decide)
    have b3 := lim 3 (by decide)
    have b4 := lim 4 (by decide)
    generalize lg T 38 0 = a0 at *
    generalize lg T 38 1 = a1 at *
    generalize lg T 38 2 = a2 at *
    generalize lg T 38 3 = a3 at *
    generalize lg T 38 4 = a4 at *
    clear lim v5 q4 qo
    constructor <;> omega
  rw [g4, v3, w26n.2.2.2.2] at v5
  rw [w26_5] at y3 y4
  unfold pQ
  generalize ws w26 (lg T 38) 5 = A at *
  generalize ws w26 (lg M 38) 5 = V at *
  generalize lg R 38 4 / 67108864 = C at *
  generalize y.toInt = u at *
  clear lim q4 qo g1 g2 g4 r0 ro i1 i4 v3 hb hba h0 ha hg
  have hu : u = 0 ∨ u = 1 := by omega
  rcases hu with rfl | rfl <;> omega
/-! words -/
theorem st_2 (v : Int32) (k p : Nat) (M : mm_M) : (f_X1_storeLittle v k p M).2 = M.2 := rfl
theorem ld_stS (v : Int32) (k p : Nat) (M : mm_M) : f_X1_loadLittle k p (f_X1_storeLittle v k p M) = v := by
  refine un_inj ?_
  rw [un_load, rd_store, rd_store, rd_store, rd_store, if_pos rfl, if_neg (by omega), if_pos rfl, if_neg (by omega), if_neg (by omega), if_pos rfl, if_neg (by omega), if_neg (by omega), if_neg (by omega), if_pos rfl, ub_st0, ub_st v 8 8 (by decide) (by decide), ub_st v 16 16 (by decide) (by decide), ub_st v 24 24 (by decide) (by decide)]
  exact ub_four v
theorem ld_stN (v : Int32) (k p q : Nat) (h : q + 4 ≤ p ∨ p + 4 ≤ q) (M : mm_M) : f_X1_loadLittle k q (f_X1_storeLittle v k p M) = f_X1_loadLittle k q M := by
  unfold f_X1_loadLittle
  rw [rd_store, rd_store, rd_store, rd_store]
  have e : ∀ j, (j + 1 ≤ p ∨ p + 4 ≤ j) → (if j = p then mm_b v else if j = p + 1 then mm_b (mm_us v 8) else if j = p + 2 then mm_b (mm_us v 16) else if j = p + 3 then mm_b (mm_us v 24) else M.1 k j) = M.1 k j := fun j hj => by
    rw [if_neg (by omega), if_neg (by omega), if_neg (by omega), if_neg (by omega)]
  rw [e q (by omega), e (q + 1) (by omega), e (q + 2) (by omega), e (q + 3) (by omega)]
theorem bv16L (k : Nat) (M : mm_M) : bv (M.1 k) 0 16 = (un (f_X1_loadLittle k 0 M) : Int) + (un (f_X1_loadLittle k 4 M) : Int) * 4294967296 + (un (f_X1_loadLittle k 8 M) : Int) * 18446744073709551616 + (un (f_X1_loadLittle k 12 M) : Int) * 79228162514264337593543950336 := by
  rw [bv16, un_load, un_load, un_load, un_load]
  simp only [Nat.zero_add, Nat.reduceAdd]
  omega
theorem bv_four (k : Nat) (a b c d : Int32) (M : mm_M) : bv ((f_X1_storeLittle d k 12 (f_X1_storeLittle c k 8 (f_X1_storeLittle b k 4 (f_X1_storeLittle a k 0 M)))).1 k) 0 16 = (un a : Int) + (un b : Int) * 4294967296 + (un c : Int) * 18446744073709551616 + (un d : Int) * 79228162514264337593543950336 := by
  rw [bv16L, ld_stN _ _ _ _ (by decide), ld_stN _ _ _ _ (by decide), ld_stN _ _ _ _ (by decide), ld_stS, ld_stN _ _ _ _ (by decide), ld_stN _ _ _ _ (by decide), ld_stS, ld_stN _ _ _ _ (by decide), ld_stS, ld_stS]
theorem l_u32 (z : Int32) : ((z.toInt64) &&& 4294967295).toInt = un z := by
  rw [l_and _ _ 32 (by decide) (by decide), toI64]
  have h : z.toInt = z.toBitVec.toInt := rfl
  have l := un_lt z
  unfold un at *
  rw [h, BitVec.toInt_eq_toNat_cond]
  rw [show (2 : Int) ^ 32 = 4294967296 from by decide]
  by_cases c : 2 * z.toBitVec.toNat < 2 ^ 32
  · rw [if_pos c]; omega
  · rw [if_neg c]; omega
theorem nb_or {x y : Int64} {v u : Int} {b c : Nat} (k : Nat) (D : Int) (hD : (2 : Int) ^ k = D) (hx : nb x v b) (hy : nb y (u * D) c) (hu : 0 ≤ u) (hb : b < 2 ^ k) (h : b + c < 9223372036854775808) : nb (x ||| y) (v + u * D) (b + c) := by
  subst hD
  have a1 : x.toBitVec.toNat = v.toNat := l_nat (by rw [hx.1]; have := hx.2; omega)
  have a2 : y.toBitVec.toNat = u.toNat * 2 ^ k := l_nat (by rw [hy.1, Int.natCast_mul, Int.toNat_of_nonneg hu, Int.natCast_pow]; rfl)
  have a3 : (x ||| y).toBitVec.toNat = v.toNat + u.toNat * 2 ^ k := by
    rw [Int64.toBitVec_or, BitVec.toNat_or, a1, a2, add_or _ _ k (by have := hx.2; omega)]
  have a4 : ((v.toNat + u.toNat * 2 ^ k : Nat) : Int) = v + u * 2 ^ k := by
    rw [Int.natCast_add, Int.natCast_mul, Int.toNat_of_nonneg hu, Int.toNat_of_nonneg hx.2.1, Int.natCast_pow]; rfl
  have a5 : v + u * 2 ^ k ≤ ((b + c : Nat) : Int) := by have := hx.2; have := hy.2; omega
  have a6 : 0 ≤ v + u * 2 ^ k := by have := hx.2; have := hy.2; omega
  refine ⟨?_, a6, a5⟩
  show (x ||| y).toBitVec.toInt = _
  rw [BitVec.toInt_eq_toNat_of_lt (by rw [a3]; omega), a3]
  exact a4
theorem nb_sl {x : Int64} {v : Int} {b : Nat} (h : nb x v b) (c : Int64) (k : Nat) (d : Int) (b2 : Nat) (hk : k < 63) (hc : c = Int64.ofNat k) (hd : 2 ^ k = d) (hb : b * 2 ^ k < 2 ^ 63) (hb2 : b * 2 ^ k ≤ b2) : nb (x <<< c) (v * d) b2 := by
  have a := h.ib.sl c k d b2 hk hc hd hb hb2
  have p : 0 ≤ v * d := Int.mul_nonneg h.2.1 (by rw [← hd]; exact Int.le_of_lt (Int.pow_pos (by decide)))
  exact ⟨a.1, p, by have := a.2; omega⟩
theorem nb_32 {x : Int64} {v : Int} {b : Nat} (h : nb x v b) : nb (x &&& 4294967295) (v % 4294967296) 4294967295 := by
  have a := l_and x 4294967295 32 (by decide) (by decide)
  rw [show (2 : Int) ^ 32 = 4294967296 from by decide, h.1] at a
  exact ⟨a, by omega, by omega⟩
theorem nb_ul {x : Int64} {v : Int} {b : Nat} (h : nb x v b) (c : Int32) (k : Nat) (d : Int) (b2 : Nat) (hk : k < 64) (hc : c = Int32.ofNat k) (hd : 2 ^ k = d) (hd0 : 0 < d) (hb : v / d ≤ b2) : nb (mm_ul x c) (v / d) b2 := by
  have a := l_ul (x := x) c k hk hc (by rw [h.1]; exact h.2.1)
  rw [hd, h.1] at a
  exact ⟨a, Int.ediv_nonneg h.2.1 (by omega), hb⟩
theorem nb_st {x : Int64} {v : Int} {b : Nat} (h : nb x v b) : (un x.toInt32 : Int) = v % 4294967296 := by
  have a1 : x.toBitVec.toNat = v.toNat := l_nat (by rw [h.1]; have := h.2; omega)
  rw [un_l2, a1]
  have := h.2
  omega
theorem p_words (h0 h1 h2 h3 h4 l0 l1 l2 l3 : Int) (b0 : 0 ≤ h0 ∧ h0 ≤ 67108863) (b1 : 0 ≤ h1 ∧ h1 ≤ 67108863) (b2 : 0 ≤ h2 ∧ h2 ≤ 67108863) (b3 : 0 ≤ h3 ∧ h3 ≤ 67108863) (b4 : 0 ≤ h4 ∧ h4 ≤ 67108863) (c0 : 0 ≤ l0 ∧ l0 ≤ 4294967295) (c1 : 0 ≤ l1 ∧ l1 ≤ 4294967295) (c2 : 0 ≤ l2 ∧ l2 ≤ 4294967295) (c3 : 0 ≤ l3 ∧ l3 ≤ 4294967295) (s0 s1 s2 s3 : Int) (e0 : s0 = (h0 + h1 * 67108864) % 4294967296 + l0) (e1 : s1 = s0 / 4294967296 + (h1 / 64 + h2 * 1048576) % 4294967296 + l1) (e2 : s2 = s1 / 4294967296 + (h2 / 4096 + h3 * 16384) % 4294967296 + l2) (e3 : s3 = s2 / 4294967296 + (h3 / 262144 + h4 * 256) % 4294967296 + l3) : s0 % 4294967296 + s1 % 4294967296 * 4294967296 + s2 % 4294967296 * 18446744073709551616 + s3 % 4294967296 * 79228162514264337593543950336 = (h0 + h1 * 67108864 + h2 * 4503599627370496 + h3 * 302231454903657293676544 + h4 * 20282409603651670423947251286016 + (l0 + l1 * 4294967296 + l2 * 18446744073709551616 + l3 * 79228162514264337593543950336)) % 340282366920938463463374607431768211456 := by
  have f0 : (h0 + h1 * 67108864) % 4294967296 = h0 + h1 % 64 * 67108864 := by omega
  have f1 : (h1 / 64 + h2 * 1048576) % 4294967296 = h1 / 64 + h2 % 4096 * 1048576 := by omega
  have f2 : (h2 / 4096 + h3 * 16384) % 4294967296 = h2 / 4096 + h3 % 262144 * 16384 := by omega
  have f3 : (h3 / 262144 + h4 * 256) % 4294967296 = h3 / 262144 + h4 % 16777216 * 256 := by omega
  rw [f0] at e0
  rw [f1] at e1
  rw [f2] at e2
  rw [f3] at e3
  clear f0 f1 f2 f3
  have g1 : h1 = 64 * (h1 / 64) + h1 % 64 := by omega
  have g2 : h2 = 4096 * (h2 / 4096) + h2 % 4096 := by omega
  have g3 : h3 = 262144 * (h3 / 262144) + h3 % 262144 := by omega
  have g4 : h4 = 16777216 * (h4 / 16777216) + h4 % 16777216 := by omega
  have t : s0 % 4294967296 + s1 % 4294967296 * 4294967296 + s2 % 4294967296 * 18446744073709551616 + s3 % 4294967296 * 79228162514264337593543950336 + (s3 / 4294967296 + h4 / 16777216) * 340282366920938463463374607431768211456 = h0 + h1 * 67108864 + h2 * 4503599627370496 + h3 * 302231454903657293676544 + h4 * 20282409603651670423947251286016 + (l0 + l1 * 4294967296 + l2 * 18446744073709551616 + l3 * 79228162514264337593543950336) := by
    have m0 : s0 = 4294967296 * (s0 / 4294967296) + s0 % 4294967296 := by omega
    have m1 : s1 = 4294967296 * (s1 / 4294967296) + s1 % 4294967296 := by omega
    have m2 : s2 = 4294967296 * (s2 / 4294967296) + s2 % 4294967296 := by omega
    have m3 : s3 = 4294967296 * (s3 / 4294967296) + s3 % 4294967296 := by omega
    generalize s0 % 4294967296 = A0 at *
    generalize s1 % 4294967296 = A1 at *
    generalize s2 % 4294967296 = A2 at *
    generalize s3 % 4294967296 = A3 at *
    generalize s0 / 4294967296 = Q0 at *
    generalize s1 / 4294967296 = Q1 at *
    generalize s2 / 4294967296 = Q2 at *
    generalize s3 / 4294967296 = Q3 at *
    generalize h1 / 64 = X1 at *
    generalize h1 % 64 = Y1 at *
    generalize h2 / 4096 = X2 at *
    generalize h2 % 4096 = Y2 at *
    generalize h3 / 262144 = X3 at *
    generalize h3 % 262144 = Y3 at *
    generalize h4 / 16777216 = X4 at *
    generalize h4 % 16777216 = Y4 at *
    clear b0 b1 b2 b3 b4 c0 c1 c2 c3
    omega
  rw [← t, Int.add_mul_emod_self_right]
  have m0 : 0 ≤ s0 % 4294967296 ∧ s0 % 4294967296 < 4294967296 := by omega
  have m1 : 0 ≤ s1 % 4294967296 ∧ s1 % 4294967296 < 4294967296 := by omega
  have m2 : 0 ≤ s2 % 4294967296 ∧ s2 % 4294967296 < 4294967296 := by omega
  have m3 : 0 ≤ s3 % 4294967296 ∧ s3 % 4294967296 < 4294967296 := by omega
  generalize s0 % 4294967296 = A0 at *
  generalize s1 % 4294967296 = A1 at *
  generalize s2 % 4294967296 = A2 at *
  generalize s3 % 4294967296 = A3 at *
  exact (Int.emod_eq_of_lt (by omega) (by omega)).symm
