/-! the reference's bytes of a number -/
theorem ws16_ab (a : Nat → Int) (B : Int) : ∀ n, (∀ i, i < n → -B ≤ a i ∧ a i ≤ B) → 65535 * ws w16 a n ≤ B * (w16 n - 1) ∧ -(B * (w16 n - 1)) ≤ 65535 * ws w16 a n
  | 0, _ => by
    rw [show ws w16 a 0 = 0 from rfl, show w16 0 = 1 from rfl]
    constructor <;> simp
  | n + 1, h => by
    obtain ⟨h1, h2⟩ := ws16_ab a B n (fun i hi => h i (by omega))
    obtain ⟨h3, h4⟩ := h n (by omega)
    have hw : 0 ≤ w16 n := Int.le_of_lt (Int.pow_pos (by decide))
    rw [ws, w16_1]
    have h5 : a n * w16 n ≤ B * w16 n := Int.mul_le_mul_of_nonneg_right h4 hw
    have h6 : -B * w16 n ≤ a n * w16 n := Int.mul_le_mul_of_nonneg_right h3 hw
    have h7 : -B * w16 n = -(B * w16 n) := Int.neg_mul _ _
    have h8 : B * (w16 n * 65536 - 1) = 65536 * (B * w16 n) - B := by grind
    have h9 : B * (w16 n - 1) = B * w16 n - B := by grind
    rw [h8]
    rw [h9] at h1 h2
    constructor <;> omega
theorem e16 : w16 16 = 115792089237316195423570985008687907853269984665640564039457584007913129639936 := by decide
theorem eP : pP = 57896044618658097711785492504343953926634992332820282019728792003956564819949 := by decide
theorem ws16_first (d : Nat → Int) : ws w16 d 16 = d 0 + 65536 * ws w16 (fun i => d (1 + i)) 15 := by
  rw [show (16 : Nat) = 1 + 15 from rfl, ws_split]
  show 0 + d 0 * 1 + w16 1 * _ = _
  rw [show w16 1 = 65536 from rfl]
  omega
theorem v16_upd (N : mm_M) (k : Nat) (d : Nat → Int) (q : Int) (h : ∀ i, i < 16 → lg N k i = if i = 0 then d 0 + 38 * q else d i) : v16 N k = ws w16 d 16 + 38 * q := by
  unfold v16
  rw [ws_upd (w := w16) (a := d) (k := 0) (x := 38 * q) (n := 16) (by decide) (fun i hi => by
      rw [h i hi]
      by_cases e : i = 0
      · rw [if_pos e, if_pos e, e]
      · rw [if_neg e, if_neg e]), show w16 0 = 1 from rfl]
  omega
theorem r_three (k : Nat) (M : mm_M) (hb : ∀ i, i < 16 → (lg M k i).natAbs ≤ 131072) : (∀ i, i < 16 → 0 ≤ lg (f_X12_carried k (f_X12_carried k (f_X12_carried k M))) k i ∧ lg (f_X12_carried k (f_X12_carried k (f_X12_carried k M))) k i ≤ 65535) ∧ ∃ z, v16 (f_X12_carried k (f_X12_carried k (f_X12_carried k M))) k = v16 M k + z * pP := by
  obtain ⟨d, q, a1, a2, -, a4⟩ := r_carry k M (fun i hi => Nat.le_trans (hb i hi) (by decide))
  have v1 := v16_upd _ k d q a2
  obtain ⟨t1, t2⟩ := ws16_ab (lg M k) 131072 16 (fun i hi => by have := hb i hi; omega)
  obtain ⟨l1, l2⟩ := ws16_lo d 16 a1
  have hq : -4 ≤ q ∧ q ≤ 4 := by
    rw [e16] at a4 l2 t1 t2
    have a5 : ws w16 (lg M k) 16 = v16 M k := rfl
    rw [a5] at t1 t2
    generalize ws w16 d 16 = A at *
    generalize v16 M k = B at *
    omega
  generalize f_X12_carried k M = N1 at *
  obtain ⟨d2, q2, b1, b2, -, b4⟩ := r_carry k N1 (fun i hi => by
    rw [a2 i hi]
    by_cases e : i = 0
    · rw [if_pos e]; have := a1 0 (by decide); omega
    · rw [if_neg e]; have := a1 i hi; omega)
  have v2 := v16_upd _ k d2 q2 b2
  obtain ⟨m1, m2⟩ := ws16_lo d2 16 b1
  have f1 := ws16_first d2
  obtain ⟨n1, n2⟩ := ws16_lo (fun i => d2 (1 + i)) 15 (fun i hi => b1 (1 + i) (by omega))
  have e15w : w16 15 * 65536 = w16 16 := (w16_1 15).symm
  rw [e16] at e15w
  have h0 : 0 ≤ d2 0 + 38 * q2 ∧ d2 0 + 38 * q2 ≤ 65535 := by
    have := b1 0 (by decide)
    rw [e16] at b4 m2 l2
    rw [v1] at b4
    generalize ws w16 d 16 = A at *
    generalize ws w16 d2 16 = B at *
    generalize ws w16 (fun i => d2 (1 + i)) 15 = C at *
    generalize w16 15 = D at *
    generalize d2 0 = E at *
    omega
  generalize f_X12_carried k N1 = N2 at *
  have c1 : ∀ i, i < 16 → 0 ≤ lg N2 k i ∧ lg N2 k i ≤ 65535 := fun i hi => by
    rw [b2 i hi]
    by_cases e : i = 0
    · rw [if_pos e]; exact h0
    · rw [if_neg e]; exact b1 i hi
  obtain ⟨d3, q3, g1, g2, -, g4⟩ := r_carry k N2 (fun i hi => by have := c1 i hi; omega)
  have v3 := v16_upd _ k d3 q3 g2
  obtain ⟨o1, o2⟩ := ws16_lo d3 16 g1
  obtain ⟨p1, p2⟩ := ws16_lo (lg N2 k) 16 c1
  have q30 : q3 = 0 := by
    have a5 : ws w16 (lg N2 k) 16 = v16 N2 k := rfl
    rw [a5] at p1 p2
    rw [e16] at g4 o2 p2
    generalize ws w16 d3 16 = A at *
    generalize v16 N2 k = B at *
    omega
  refine ⟨fun i hi => ?_, -(2 * q + 2 * q2), ?_⟩
  · rw [g2 i hi, q30]
    by_cases e : i = 0
    · rw [if_pos e]; have := g1 0 (by decide); omega
    · rw [if_neg e]; exact g1 i hi
  · rw [e16] at a4 b4 g4
    rw [eP]
    generalize ws w16 d 16 = A at *
    generalize ws w16 d2 16 = B at *
    generalize ws w16 d3 16 = C at *
    omega
/-- the digits of p -/
def pd (i : Nat) : Int := if i = 0 then 65517 else 65535
theorem r_bor (x : Int64) (h0 : -65536 ≤ x.toInt) (h1 : x.toInt ≤ 65535) : ((x >>> (((16 : Int32)).toInt64 &&& 63)) &&& 1).toInt = (if x.toInt < 0 then 1 else 0) ∧ (x &&& 65535).toInt = x.toInt + 65536 * (if x.toInt < 0 then 1 else 0) := by
  have a : (x >>> (((16 : Int32)).toInt64 &&& 63)).toInt = x.toInt / 65536 := (((ib.of x (b := 65536) (by omega)).sr (((16 : Int32)).toInt64 &&& 63) 16 65536 2 (by decide) (by decide) (by decide) (by decide))).1
  rw [l_and _ 1 1 (by decide) (by decide), l_and x 65535 16 (by decide) (by decide), a, show (2 : Int) ^ 1 = 2 from by decide, show (2 : Int) ^ 16 = 65536 from by decide]
  generalize x.toInt = X at *
  by_cases q : X < 0
  · rw [if_pos q]; constructor <;> omega
  · rw [if_neg q]; constructor <;> omega
theorem r_L55 (σ : mm_M) (hp : ∀ i, i < 16 → 0 ≤ lg σ 139 i ∧ lg σ 139 i ≤ 65535) (h0 : lg σ 141 0 = lg σ 139 0 - 65517) : ∀ t, t ≤ 14 →
    (f_X12_packed_L55 σ t).1 = σ.1 ∧ (f_X12_packed_L55 σ t).2 139 = σ.2 139 ∧ (∀ i, i < t → 0 ≤ lg (f_X12_packed_L55 σ t) 141 i ∧ lg (f_X12_packed_L55 σ t) 141 i ≤ 65535) ∧ -65536 ≤ lg (f_X12_packed_L55 σ t) 141 t ∧ lg (f_X12_packed_L55 σ t) 141 t ≤ 65535 ∧
    ws w16 (lg (f_X12_packed_L55 σ t) 141) (t + 1) = ws w16 (lg σ 139) (t + 1) - ws w16 pd (t + 1)
  | 0, _ => by
    have := hp 0 (by decide)
    refine ⟨rfl, rfl, fun i hi => absurd hi (by omega), ?_, ?_, ?_⟩
    · show -65536 ≤ lg σ 141 0; omega
    · show lg σ 141 0 ≤ 65535; omega
    · show 0 + lg σ 141 0 * 1 = 0 + lg σ 139 0 * 1 - (0 + pd 0 * 1)
      rw [show pd 0 = 65517 from rfl]; omega
  | t + 1, ht => by
    obtain ⟨g0, g1, g2, g3, g4, g5⟩ := r_L55 σ hp h0 t (by omega)
    rw [f_X12_packed_L55]
    generalize f_X12_packed_L55 σ t = R at *
    rw [show (1 + t) - 1 = t from by omega]
    obtain ⟨c1, c2⟩ := r_bor (R.2 141 t) g3 g4
    have pt : (R.2 139 (1 + t)).toInt = lg σ 139 (1 + t) := by rw [g1]; rfl
    have hpt := hp (1 + t) (by omega)
    have hb : (if (R.2 141 t).toInt < 0 then (1 : Int) else 0) = 0 ∨ (if (R.2 141 t).toInt < 0 then (1 : Int) else 0) = 1 := by
      by_cases q : (R.2 141 t).toInt < 0
      · rw [if_pos q]; exact Or.inr rfl
      · rw [if_neg q]; exact Or.inl rfl
    have i1 := ((ib_c _ _ 65535 pt (by omega)).sub (ib_c 65535 65535 65535 rfl (by decide)) (by decide)).sub (ib_c _ _ 1 c1 (by rcases hb with q | q <;> rw [q] <;> decide)) (by decide)
    generalize hZ : R.2 139 (1 + t) - 65535 - (R.2 141 t >>> (((16 : Int32)).toInt64 &&& 63) &&& 1) = Z at *
    rw [rd_wlN _ _ _ _ (show 141 ≠ 141 ∨ t ≠ 1 + t from Or.inr (by omega))]
    have eN : lg (mm_wl (mm_wl R 141 (1 + t) Z) 141 t (R.2 141 t &&& 65535)) 141 t = lg R 141 t + 65536 * (if (R.2 141 t).toInt < 0 then 1 else 0) := by
      show (_ : Int64).toInt = _
      rw [rd_wlS]; exact c2
    have eM : lg (mm_wl (mm_wl R 141 (1 + t) Z) 141 t (R.2 141 t &&& 65535)) 141 (t + 1) = lg σ 139 (1 + t) - 65535 - (if (R.2 141 t).toInt < 0 then 1 else 0) := by
      show (_ : Int64).toInt = _
      rw [rd_wlN _ _ _ _ (Or.inr (by omega)), Nat.add_comm t 1, rd_wlS]
      exact i1.1
    have eO : ∀ i, i ≠ t → i ≠ t + 1 → lg (mm_wl (mm_wl R 141 (1 + t) Z) 141 t (R.2 141 t &&& 65535)) 141 i = lg R 141 i := fun i a b => by
      show (_ : Int64).toInt = _
      rw [rd_wlN _ _ _ _ (Or.inr a), rd_wlN _ _ _ _ (Or.inr (by omega))]
      rfl
    have gt : lg R 141 t = (R.2 141 t).toInt := rfl
    refine ⟨g0, ?_, fun i hi => ?_, ?_, ?_, ?_⟩
    · rw [← g1]; funext j
      rw [rd_wlN _ _ _ _ (Or.inl (by decide)), rd_wlN _ _ _ _ (Or.inl (by decide))]
    · by_cases e : i = t
      · subst e
        rw [eN, gt]
        rw [gt] at g3 g4
        by_cases q : (R.2 141 i).toInt < 0
        · rw [if_pos q]; omega
        · rw [if_neg q]; omega
      · rw [eO i e (by omega)]; exact g2 i (by omega)
    · rw [eM]; rcases hb with q | q <;> rw [q] <;> omega
    · rw [eM]; rcases hb with q | q <;> rw [q] <;> omega
    · have s1 : ws w16 (lg (mm_wl (mm_wl R 141 (1 + t) Z) 141 t (R.2 141 t &&& 65535)) 141) (t + 1 + 1) = ws w16 (lg R 141) t + (lg R 141 t + 65536 * (if (R.2 141 t).toInt < 0 then 1 else 0)) * w16 t + (lg σ 139 (1 + t) - 65535 - (if (R.2 141 t).toInt < 0 then 1 else 0)) * w16 (t + 1) := by
        rw [ws, ws, eN, eM, ws_congr (a := lg (mm_wl (mm_wl R 141 (1 + t) Z) 141 t (R.2 141 t &&& 65535)) 141) (b := lg R 141) (fun i hi => eO i (by omega) (by omega))]
      have s2 : ws w16 (lg R 141) t + lg R 141 t * w16 t = ws w16 (lg σ 139) (t + 1) - ws w16 pd (t + 1) := g5
      rw [s1, show ws w16 (lg σ 139) (t + 1 + 1) = ws w16 (lg σ 139) (t + 1) + lg σ 139 (t + 1) * w16 (t + 1) from rfl, show ws w16 pd (t + 1 + 1) = ws w16 pd (t + 1) + 65535 * w16 (t + 1) from rfl, w16_1, Nat.add_comm 1 t]
      generalize (if (R.2 141 t).toInt < 0 then (1 : Int) else 0) = β at *
      generalize w16 t = W at *
      generalize ws w16 (lg σ 139) (t + 1) = S1 at *
      generalize ws w16 pd (t + 1) = S2 at *
      generalize lg σ 139 (t + 1) = P at *
      generalize lg R 141 t = L at *
      generalize ws w16 (lg R 141) t = S3 at *
      clear i1 eN eM eO hZ c1 c2 g2 hp s1 hb
      grind
theorem cmp0 (x y : Int64) : lg_cmp x y = 0 ↔ x = y := by
  unfold lg_cmp
  by_cases h : x > y
  · rw [if_pos h]
    constructor
    · intro q; exact absurd q (by decide)
    · intro q; exact absurd (q ▸ h) (Int64.lt_irrefl)
  · rw [if_neg h]
    by_cases e : x = y
    · rw [if_pos e]; exact ⟨fun _ => e, fun _ => rfl⟩
    · rw [if_neg e]
      exact ⟨fun q => absurd q (by decide), fun q => absurd q e⟩
/-- p is taken off once, where it goes -/
def r_sb (M_13 : mm_M) : mm_M :=
  let M_15 := mm_wl M_13 141 0 ((M_13.2 139 0) - (65517))
  let M_16 := f_X12_packed_L55 M_15 14
  let M_18 := mm_wl M_16 141 15 (((M_16.2 139 15) - (32767)) - (((M_16.2 141 14) >>> (((16 : Int32)).toInt64 &&& 63)) &&& (1)))
  f_X12_packed_B1 M_18
theorem r_sbI (M : mm_M) (hp : ∀ i, i < 16 → 0 ≤ lg M 139 i ∧ lg M 139 i ≤ 65535) : (∀ i, i < 16 → 0 ≤ lg (r_sb M) 139 i ∧ lg (r_sb M) 139 i ≤ 65535) ∧ v16 (r_sb M) 139 = if v16 M 139 < pP then v16 M 139 else v16 M 139 - pP := by
  unfold r_sb
  dsimp only
  have hp0 := hp 0 (by decide)
  have i0 := (ib.of (M.2 139 0) (b := 65535) (by have : lg M 139 0 = (M.2 139 0).toInt := rfl; omega)).sub (ib_c 65517 65517 65517 rfl (by decide)) (by decide)
  have l15 : lg (mm_wl M 141 0 (M.2 139 0 - 65517)) 139 = lg M 139 := by
    funext j; unfold lg; rw [rd_wlN _ _ _ _ (Or.inl (by decide))]
  have l0 : lg (mm_wl M 141 0 (M.2 139 0 - 65517)) 141 0 = lg M 139 0 - 65517 := by
    show (_ : Int64).toInt = _
    rw [rd_wlS]; exact i0.1
  generalize mm_wl M 141 0 (M.2 139 0 - 65517) = M15 at *
  obtain ⟨-, g1, g2, g3, g4, g5⟩ := r_L55 M15 (by rw [l15]; exact hp) (by rw [l0, l15]) 14 (by decide)
  rw [l15] at g5
  have e139 : lg (f_X12_packed_L55 M15 14) 139 = lg M 139 := by rw [← l15]; unfold lg; rw [g1]
  generalize f_X12_packed_L55 M15 14 = R at *
  obtain ⟨c1, c2⟩ := r_bor (R.2 141 14) g3 g4
  have gt : lg R 141 14 = (R.2 141 14).toInt := rfl
  have hb : (if (R.2 141 14).toInt < 0 then (1 : Int) else 0) = 0 ∨ (if (R.2 141 14).toInt < 0 then (1 : Int) else 0) = 1 := by
    by_cases q : (R.2 141 14).toInt < 0
    · rw [if_pos q]; exact Or.inr rfl
    · rw [if_neg q]; exact Or.inl rfl
  have p15 : (R.2 139 15).toInt = lg M 139 15 := by rw [← e139]; rfl
  have hp15 := hp 15 (by decide)
  have i1 := ((ib_c _ _ 65535 p15 (by omega)).sub (ib_c 32767 32767 32767 rfl (by decide)) (by decide)).sub (ib_c _ _ 1 c1 (by rcases hb with q | q <;> rw [q] <;> decide)) (by decide)
  generalize R.2 139 15 - 32767 - (R.2 141 14 >>> (((16 : Int32)).toInt64 &&& 63) &&& 1) = Z at *
  have zb : -65536 ≤ Z.toInt ∧ Z.toInt ≤ 65535 := by
    rw [i1.1]; rcases hb with q | q <;> rw [q] <;> omega
  obtain ⟨z1, -⟩ := r_bor Z zb.1 zb.2
  unfold f_X12_packed_B1
  rw [rd_wlS, rd_wlN _ _ _ _ (show 141 ≠ 141 ∨ 14 ≠ 15 from Or.inr (by decide))]
  -- the row of what is left
  have r14 : lg (mm_wl (mm_wl R 141 15 Z) 141 14 (R.2 141 14 &&& 65535)) 141 14 = lg R 141 14 + 65536 * (if (R.2 141 14).toInt < 0 then 1 else 0) := by
    show (_ : Int64).toInt = _
    rw [rd_wlS]; exact c2
  have r15 : lg (mm_wl (mm_wl R 141 15 Z) 141 14 (R.2 141 14 &&& 65535)) 141 15 = Z.toInt := by
    show (_ : Int64).toInt = _
    rw [rd_wlN _ _ _ _ (Or.inr (by decide)), rd_wlS]
  have rO : ∀ i, i < 14 → lg (mm_wl (mm_wl R 141 15 Z) 141 14 (R.2 141 14 &&& 65535)) 141 i = lg R 141 i := fun i hi => by
    show (_ : Int64).toInt = _
    rw [rd_wlN _ _ _ _ (Or.inr (by omega)), rd_wlN _ _ _ _ (Or.inr (by omega))]
    rfl
  have r139 : lg (mm_wl (mm_wl R 141 15 Z) 141 14 (R.2 141 14 &&& 65535)) 139 = lg M 139 := by
    rw [← e139]; funext j; unfold lg; rw [rd_wlN _ _ _ _ (Or.inl (by decide)), rd_wlN _ _ _ _ (Or.inl (by decide))]
  generalize mm_wl (mm_wl R 141 15 Z) 141 14 (R.2 141 14 &&& 65535) = N at *
  have d14 : 0 ≤ lg N 141 14 ∧ lg N 141 14 ≤ 65535 := by
    rw [r14, gt]
    rw [gt] at g3 g4
    by_cases q : (R.2 141 14).toInt < 0
    · rw [if_pos q]; omega
    · rw [if_neg q]; omega
  have dlo : ∀ i, i < 15 → 0 ≤ lg N 141 i ∧ lg N 141 i ≤ 65535 := fun i hi => by
    by_cases e : i = 14
    · rw [e]; exact d14
    · rw [rO i (by omega)]; exact g2 i (by omega)
  have hval : ws w16 (lg N 141) 16 = v16 M 139 - pP := by
    have s1 : ws w16 (lg N 141) 16 = ws w16 (lg R 141) 14 + (lg R 141 14 + 65536 * (if (R.2 141 14).toInt < 0 then 1 else 0)) * w16 14 + Z.toInt * w16 15 := by
      rw [show ws w16 (lg N 141) 16 = ws w16 (lg N 141) 14 + lg N 141 14 * w16 14 + lg N 141 15 * w16 15 from rfl, r14, r15, ws_congr rO]
    have s2 : ws w16 (lg R 141) 14 + lg R 141 14 * w16 14 = ws w16 (lg M 139) 15 - ws w16 pd 15 := g5
    have s3 : v16 M 139 = ws w16 (lg M 139) 15 + lg M 139 15 * w16 15 := rfl
    have s4 : ws w16 pd 15 + 32767 * w16 15 = pP := by decide
    rw [s1, i1.1, s3, ← s4, show w16 15 = w16 14 * 65536 from w16_1 14]
    generalize (if (R.2 141 14).toInt < 0 then (1 : Int) else 0) = β at *
    generalize w16 14 = W at *
    generalize ws w16 (lg M 139) 15 = S1 at *
    generalize ws w16 pd 15 = S2 at *
    generalize lg M 139 15 = P at *
    generalize lg R 141 14 = L at *
    generalize ws w16 (lg R 141) 14 = S3 at *
    clear i1 c1 c2 g2 hp s1 hb r14 r15 rO dlo d14 z1 zb g5 g3 g4 s4 s3
    grind
  obtain ⟨w1, w2⟩ := ws16_lo (lg N 141) 15 dlo
  have hsp : ws w16 (lg N 141) 16 = ws w16 (lg N 141) 15 + Z.toInt * w16 15 := by rw [← r15]; rfl
  have hW : 0 < w16 15 := Int.pow_pos (by decide)
  by_cases hneg : Z.toInt < 0
  · rw [if_pos hneg] at z1
    have hz : lg_cmp (Z >>> (((16 : Int32)).toInt64 &&& 63) &&& 1) 1 = 0 := (cmp0 _ _).mpr (Int64.toInt_inj.mp z1)
    rw [if_neg (by rw [hz]; simp)]
    have hlt : v16 M 139 < pP := by
      have : Z.toInt * w16 15 ≤ -1 * w16 15 := Int.mul_le_mul_of_nonneg_right (by omega) (by omega)
      omega
    rw [if_pos hlt]
    unfold v16
    rw [r139]
    exact ⟨hp, rfl⟩
  · rw [if_neg hneg] at z1
    have hz : ¬ lg_cmp (Z >>> (((16 : Int32)).toInt64 &&& 63) &&& 1) 1 = 0 := by
      rw [cmp0]
      intro q
      rw [q] at z1
      exact absurd z1 (by decide)
    rw [if_pos hz]
    have hge : ¬ v16 M 139 < pP := by
      have : 0 ≤ Z.toInt * w16 15 := Int.mul_nonneg (by omega) (by omega)
      omega
    rw [if_neg hge]
    have er : ∀ i, i < 16 → lg (f_X12_same 139 141 N) 139 i = lg N 141 i := fun i hi => by unfold lg; rw [r_same 139 141 hi]
    refine ⟨fun i hi => ?_, ?_⟩
    · rw [er i hi]
      by_cases e : i = 15
      · rw [e, r15]; omega
      · exact dlo i (by omega)
    · unfold v16
      rw [ws_congr er]
      exact hval
