/-! the curve: both answers are one row of bytes -/
theorem r_208 (k : Nat) (σ : mm_M) : ∀ t, (f_X12_packed_L208 k σ t).2 = σ.2 ∧ ∀ j, j < t → (f_X12_packed_L208 k σ t).1 k (2 * j) = mm_b ((σ.2 139 j).toInt32) ∧ (f_X12_packed_L208 k σ t).1 k (2 * j + 1) = mm_b ((σ.2 139 j >>> (((8 : Int32)).toInt64 &&& 63)).toInt32)
  | 0 => ⟨rfl, fun j hj => absurd hj (by omega)⟩
  | t + 1 => by
    obtain ⟨h1, h2⟩ := r_208 k σ t
    rw [f_X12_packed_L208]
    generalize f_X12_packed_L208 k σ t = R at *
    refine ⟨h1, fun j hj => ?_⟩
    by_cases e : j = t
    · subst e
      rw [rd_wN _ _ _ _ (Or.inr (by omega)), rd_wS, rd_wS, rd_w2, h1]
      exact ⟨rfl, rfl⟩
    · rw [rd_wN _ _ _ _ (Or.inr (by omega)), rd_wN _ _ _ _ (Or.inr (by omega)), rd_wN _ _ _ _ (Or.inr (by omega)), rd_wN _ _ _ _ (Or.inr (by omega))]
      exact h2 j (by omega)
theorem r_byte (x : Int64) (h0 : 0 ≤ x.toInt) (h1 : x.toInt ≤ 65535) : (ub (mm_b x.toInt32) : Int) + 256 * (ub (mm_b (x >>> (((8 : Int32)).toInt64 &&& 63)).toInt32) : Int) = x.toInt := by
  have a : (x >>> (((8 : Int32)).toInt64 &&& 63)).toInt = x.toInt / 256 := (((ib.of x (b := 65536) (by omega)).sr (((8 : Int32)).toInt64 &&& 63) 8 256 257 (by decide) (by decide) (by decide) (by decide))).1
  have b := un_l2i x h0 (by omega)
  have c := un_l2i (x >>> (((8 : Int32)).toInt64 &&& 63)) (by rw [a]; omega) (by rw [a]; omega)
  rw [ub_b, ub_b]
  unfold ub
  rw [a] at c
  generalize x.toInt = X at *
  generalize un x.toInt32 = Y at *
  generalize un (x >>> (((8 : Int32)).toInt64 &&& 63)).toInt32 = Z at *
  omega
theorem mod_of {x v p : Int} (q : Int) (h : v = x + q * p) (h0 : 0 ≤ v) (h1 : v < p) : v = x % p := by
  rw [← Int.emod_eq_of_lt h0 h1, h, Int.add_mul_emod_self_right]
theorem r_L31 (N : mm_M) : f_X12_packed_L31 N 2 = r_sb (r_sb N) := by
  have h0 : f_X12_packed_L31 N 0 = N := by rw [f_X12_packed_L31]
  have h1 : ∀ t, f_X12_packed_L31 N (t + 1) = r_sb (f_X12_packed_L31 N t) := fun t => by
    rw [f_X12_packed_L31]
    generalize f_X12_packed_L31 N t = R
    unfold r_sb
    exact Eq.refl _
  rw [show f_X12_packed_L31 N 2 = f_X12_packed_L31 N (1 + 1) from rfl, h1 1, show f_X12_packed_L31 N 1 = f_X12_packed_L31 N (0 + 1) from rfl, h1 0, h0]
theorem r_pack {M : mm_M} {k b : Nat} {X : Int} (k1 : Nat) (hb : b ≤ 131072) (h : r_is M k b X) : (∀ j, j < 32 → ((f_X12_packed k1 k M).1 k1 j).toInt8.toInt32 = (f_X12_packed k1 k M).1 k1 j) ∧ bv ((f_X12_packed k1 k M).1 k1) 0 32 = X % pP := by
  obtain ⟨s1, q, s2⟩ := r_sameI 139 h
  obtain ⟨t1, z, t2⟩ := r_three 139 (f_X12_same 139 k M) (fun i hi => Nat.le_trans (s1 i hi) hb)
  unfold f_X12_packed
  dsimp only
  rw [s2] at t2
  generalize f_X12_carried 139 (f_X12_carried 139 (f_X12_carried 139 (f_X12_same 139 k M))) = N at *
  rw [r_L31]
  obtain ⟨a1, a2⟩ := r_sbI N t1
  generalize r_sb N = N1 at *
  obtain ⟨b1, b2⟩ := r_sbI N1 a1
  generalize r_sb N1 = N2 at *
  obtain ⟨o1, o2⟩ := ws16_lo (lg N 139) 16 t1
  have o3 : ws w16 (lg N 139) 16 = v16 N 139 := rfl
  rw [o3, e16] at o2
  rw [o3] at o1
  have hv : ∃ w, v16 N2 139 = X + w * pP ∧ 0 ≤ v16 N2 139 ∧ v16 N2 139 < pP := by
    by_cases c1 : v16 N 139 < pP
    · rw [if_pos c1] at a2
      rw [a2, if_pos c1] at b2
      exact ⟨q + z, by rw [b2, t2]; grind, by omega, by omega⟩
    · rw [if_neg c1] at a2
      by_cases c2 : v16 N1 139 < pP
      · rw [if_pos c2] at b2
        exact ⟨q + z - 1, by rw [b2, a2, t2]; grind, by omega, by omega⟩
      · rw [if_neg c2] at b2
        refine ⟨q + z - 2, by rw [b2, a2, t2]; grind, by omega, ?_⟩
        rw [b2, a2]
        rw [eP]
        omega
  obtain ⟨w, hw, v0, v1⟩ := hv
  obtain ⟨-, g⟩ := r_208 k1 N2 16
  generalize f_X12_packed_L208 k1 N2 16 = R at *
  constructor
  · intro j hj
    obtain ⟨g1, g2⟩ := g (j / 2) (by omega)
    rcases Nat.mod_two_eq_zero_or_one j with e | e
    · rw [show 2 * (j / 2) = j from by omega] at g1
      rw [g1]; exact isb_b _
    · rw [show 2 * (j / 2) + 1 = j from by omega] at g2
      rw [g2]; exact isb_b _
  · rw [← mod_of w hw v0 v1]
    have e1 := ws16_8 (fun j => (ub (R.1 k1 (0 + j)) : Int)) 16
    unfold bv
    rw [show (32 : Nat) = 2 * 16 from rfl, ← e1]
    unfold v16
    refine ws_congr (fun i hi => ?_)
    obtain ⟨g1, g2⟩ := g i hi
    obtain ⟨d1, d2⟩ := b1 i hi
    rw [Nat.zero_add, Nat.zero_add, g1, g2]
    exact r_byte (N2.2 139 i) d1 d2
/-! rows -/
theorem rd_cp (M : mm_M) (k sp k2 dp n a b : Nat) : (mm_cp M k sp k2 dp n).1 a b = if a = k2 ∧ dp ≤ b ∧ b < dp + n then M.1 k (sp + (b - dp)) else M.1 a b := rfl
theorem rd_cpS (M : mm_M) (k sp k2 dp n : Nat) {b : Nat} (h : b < n) : (mm_cp M k sp k2 dp n).1 k2 (dp + b) = M.1 k (sp + b) := by
  rw [rd_cp, if_pos ⟨rfl, by omega, by omega⟩, show dp + b - dp = b from by omega]
theorem rd_cpN (M : mm_M) (k sp k2 dp n : Nat) {a b : Nat} (h : a ≠ k2 ∨ b < dp ∨ dp + n ≤ b) : (mm_cp M k sp k2 dp n).1 a b = M.1 a b := by
  rw [rd_cp, if_neg]
  rintro ⟨h1, h2, h3⟩
  rcases h with q | q | q
  · exact q h1
  · omega
  · omega
theorem copy_cp (k1 p1 k2 p2 : Nat) (M : mm_M) (hk : k1 ≠ k2) : ∀ n, f_X12_copy k1 p1 k2 p2 n M = mm_cp M k1 p1 k2 p2 n := by
  have hL : ∀ n, f_X12_copy_L3 k1 p1 k2 p2 M n = mm_cp M k1 p1 k2 p2 n := by
    intro n
    induction n with
    | zero =>
      rw [f_X12_copy_L3]
      refine Prod.ext ?_ rfl
      funext a b
      show _ = (mm_cp M k1 p1 k2 p2 0).1 a b
      rw [rd_cp, if_neg]
      rintro ⟨-, h1, h2⟩
      omega
    | succ t ih =>
      rw [f_X12_copy_L3, ih]
      refine Prod.ext ?_ rfl
      funext a b
      show (mm_w (mm_cp M k1 p1 k2 p2 t) k2 (p2 + t) ((mm_cp M k1 p1 k2 p2 t).1 k1 (p1 + t))).1 a b = (mm_cp M k1 p1 k2 p2 (t + 1)).1 a b
      rw [rd_w, rd_cpN M k1 p1 k2 p2 t (Or.inl hk), rd_cp, rd_cp]
      by_cases ea : a = k2
      · by_cases eb : b = p2 + t
        · rw [if_pos ⟨ea, eb⟩, if_pos ⟨ea, by omega, by omega⟩, show p1 + (b - p2) = p1 + t from by omega]
        · rw [if_neg (fun q => eb q.2)]
          by_cases ec : p2 ≤ b ∧ b < p2 + t
          · rw [if_pos ⟨ea, ec.1, ec.2⟩, if_pos ⟨ea, by omega, by omega⟩]
          · rw [if_neg (fun q => ec q.2), if_neg (fun q => by omega)]
      · rw [if_neg (fun q => ea q.1), if_neg (fun q => ea q.1), if_neg (fun q => ea q.1)]
  intro n
  unfold f_X12_copy
  exact hL n
/-! the answer of the curve, as a row -/
def cvS (s : Nat → Int32) (j : Nat) : Int32 := if j = 31 then mm_b ((s 31 &&& 127) ||| 64) else if j = 0 then mm_b (s 0 &&& 248) else s j
def cvX (s p : Nat → Int32) : Int := ((lad (bv p 0 32 % w10 10) (sbit (cvS s)) 255).1 * ivc (lad (bv p 0 32 % w10 10) (sbit (cvS s)) 255).2.1 254) % pP
def cvB (s p : Nat → Int32) (j : Nat) : Int32 := mm_b (Int32.ofInt (cvX s p / w8 j % 256))
theorem un_ofInt (x : Int) (h0 : 0 ≤ x) (h1 : x < 4294967296) : (un (Int32.ofInt x) : Int) = x := by
  unfold un
  rw [show (Int32.ofInt x).toBitVec = BitVec.ofInt 32 x from rfl, BitVec.toNat_ofInt]
  rw [Int.toNat_of_nonneg (by omega)]
  omega
theorem bv_get (s : Nat → Int32) (j : Nat) (hj : j < 32) (hs : (s j).toInt8.toInt32 = s j) : s j = mm_b (Int32.ofInt (bv s 0 32 / w8 j % 256)) := by
  refine by_eq hs (isb_b _) ?_
  rw [ub_b]
  have g := ws8_get (fun j => (ub (s (0 + j)) : Int)) j 32 hj (fun i _ => ub_in s 0 i)
  unfold bv
  rw [g, Nat.zero_add]
  have l := ub_lt (s j)
  have u := un_ofInt (ub (s j) : Int) (by omega) (by omega)
  unfold ub at *
  omega
theorem sbit_congr {s s' : Nat → Int32} (h : ∀ j, j < 32 → s j = s' j) : sbit s = sbit s' := by
  funext t
  unfold sbit
  rw [h ((254 - t) / 8) (by omega)]
theorem bv_congr {s s' : Nat → Int32} {p p' n : Nat} (h : ∀ j, j < n → s (p + j) = s' (p' + j)) : bv s p n = bv s' p' n := by
  unfold bv
  exact ws_congr (fun i hi => by rw [h i hi])
theorem cvS_congr {s s' : Nat → Int32} (h : ∀ j, j < 32 → s j = s' j) : ∀ j, j < 32 → cvS s j = cvS s' j := by
  intro j hj
  unfold cvS
  rw [h 31 (by decide), h 0 (by decide), h j hj]
theorem cvB_congr {s s' p p' : Nat → Int32} (hs : ∀ j, j < 32 → s j = s' j) (hp : ∀ j, j < 32 → p j = p' j) : cvB s p = cvB s' p' := by
  funext j
  unfold cvB cvX
  rw [sbit_congr (cvS_congr hs), bv_congr (p := 0) (p' := 0) (s := p) (s' := p') (n := 32) (fun j hj => by rw [Nat.zero_add]; exact hp j hj)]
theorem e_scal (k : Nat) (M : mm_M) : ∀ j, j < 32 → (f_X4_decodeScalar k M).1 14 j = cvS (M.1 k) j := by
  intro j hj
  unfold f_X4_decodeScalar
  dsimp only
  rw [rd_wS]
  by_cases e : j = 31
  · subst e
    rw [rd_wS, rd_wN _ _ _ _ (Or.inr (by decide)), show (31 : Nat) = 0 + 31 from rfl, rd_cpS _ _ _ _ _ _ (by decide)]
    unfold cvS
    rw [if_pos rfl]
    refine mm_b_eq ?_
    rw [un_or, un_or, Nat.zero_add]
    have h : un (mm_b (M.1 k 31 &&& 127)) % 256 = un (M.1 k 31 &&& 127) % 256 := mm_b_un _
    have o : ∀ x y : Nat, (x ||| y) % 256 = (x % 256) ||| (y % 256) := fun x y => by
      rw [show (256 : Nat) = 2 ^ 8 from rfl, Nat.or_mod_two_pow]
    rw [o, o, h]
  · rw [rd_wN _ _ _ _ (Or.inr e), rd_wN _ _ _ _ (Or.inr e)]
    unfold cvS
    rw [if_neg e]
    by_cases e0 : j = 0
    · subst e0
      rw [rd_wS, if_pos rfl, show (0 : Nat) = 0 + 0 from rfl, rd_cpS _ _ _ _ _ _ (by decide)]
      refine mm_b_eq ?_
      rw [un_and, un_and]
      have o : ∀ x y : Nat, (x &&& y) % 256 = (x % 256) &&& (y % 256) := fun x y => by
        rw [show (256 : Nat) = 2 ^ 8 from rfl, Nat.and_mod_two_pow]
      rw [o, o]
      rfl
    · rw [rd_wN _ _ _ _ (Or.inr e0), if_neg e0]
      have := rd_cpS M k 0 14 0 32 hj
      simp only [Nat.zero_add] at this
      exact this
theorem e_curve (k1 k2 : Nat) (h2 : k2 ≠ 14) (M : mm_M) (j : Nat) (hj : j < 32) : (f_X4_multiply k1 k2 M).1 15 j = cvB (M.1 k1) (M.1 k2) j := by
  unfold f_X4_multiply
  dsimp only
  have hs := e_scal k1 M
  have hf := w_f_X4_decodeScalar k1 M
  have h3 : (f_X4_decodeScalar k1 M).1 k2 = M.1 k2 := (hf k2 (by simpa using h2)).1
  generalize f_X4_decodeScalar k1 M = M1 at *
  have d := e_dec k2 M1
  have d1 : (f_X4_decodePoint k2 M1).1 14 = M1.1 14 := ((w_f_X4_decodePoint k2 M1) 14 (by decide)).1
  generalize f_X4_decodePoint k2 M1 = M2 at *
  rw [h3] at d
  obtain ⟨c1, c2⟩ := e_climb M2 _ d
  generalize f_X4_climb M2 = M3 at *
  have i1 := e_inv 21 (by decide) c2 (by decide)
  have i2 := c1.fr (w_f_X4_invert 21 18 M3) (by decide)
  generalize f_X4_invert 21 18 M3 = M4 at *
  obtain ⟨p1, q1, p2⟩ := i2
  obtain ⟨r1, q2, r2⟩ := i1
  obtain ⟨m1, m2, q3, m3⟩ := e_mul 17 17 21 M4 p1 r1
  generalize f_X4_multiplyLimbs 17 17 21 M4 = M5 at *
  obtain ⟨n1, n2⟩ := e_encode 17 M5 m1 m2
  generalize f_X4_encode 17 M5 = M6 at *
  rw [bv_get (M6.1 15) j hj (n1 j hj), n2]
  unfold cvB cvX
  rw [m3, p2, r2, d1, sbit_congr hs]
  generalize (lad (bv (M.1 k2) 0 32 % w10 10) (sbit (cvS (M.1 k1))) 255).1 = A
  generalize ivc (lad (bv (M.1 k2) 0 32 % w10 10) (sbit (cvS (M.1 k1))) 255).2.1 254 = B
  rw [show (A + q1 * pP) * (B + q2 * pP) + q3 * pP = A * B + (q1 * B + q2 * A + q1 * q2 * pP + q3) * pP from by grind, Int.add_mul_emod_self_right]
theorem r_scal (k p : Nat) (M : mm_M) (hk : k ≠ 144) : ∀ j, j < 32 → (mm_w (mm_w (f_X12_copy k p 144 0 32 M) 144 31 (mm_b (((f_X12_copy k p 144 0 32 M).1 144 31 &&& 127) ||| 64))) 144 0 (mm_b ((mm_w (f_X12_copy k p 144 0 32 M) 144 31 (mm_b (((f_X12_copy k p 144 0 32 M).1 144 31 &&& 127) ||| 64))).1 144 0 &&& 248))).1 144 j = cvS (fun i => M.1 k (p + i)) j := by
  intro j hj
  rw [copy_cp _ _ _ _ _ hk]
  have c : ∀ i, i < 32 → (mm_cp M k p 144 0 32).1 144 i = M.1 k (p + i) := fun i hi => by
    have := rd_cpS M k p 144 0 32 hi
    rw [Nat.zero_add] at this
    exact this
  generalize mm_cp M k p 144 0 32 = R at *
  unfold cvS
  by_cases e : j = 31
  · subst e
    rw [rd_wN _ _ _ _ (Or.inr (by decide)), rd_wS, if_pos rfl, c 31 (by decide)]
  · rw [if_neg e]
    by_cases e0 : j = 0
    · subst e0
      rw [rd_wS, rd_wN _ _ _ _ (Or.inr (by decide)), if_pos rfl, c 0 (by decide)]
    · rw [rd_wN _ _ _ _ (Or.inr e0), rd_wN _ _ _ _ (Or.inr e), if_neg e0, c j hj]
theorem r_curve (k1 p1 k2 p2 : Nat) (h1 : k1 ≠ 144) (h2 : k2 ≠ 144) (M : mm_M) (j : Nat) (hj : j < 32) : (f_X12_curved k1 p1 k2 p2 M).1 145 j = cvB (fun i => M.1 k1 (p1 + i)) (fun i => M.1 k2 (p2 + i)) j := by
  unfold f_X12_curved
  dsimp only
  have hs := r_scal k1 p1 M h1
  have hf : mm_fr [144] M (mm_w (mm_w (f_X12_copy k1 p1 144 0 32 M) 144 31 (mm_b (((f_X12_copy k1 p1 144 0 32 M).1 144 31 &&& 127) ||| 64))) 144 0 (mm_b ((mm_w (f_X12_copy k1 p1 144 0 32 M) 144 31 (mm_b (((f_X12_copy k1 p1 144 0 32 M).1 144 31 &&& 127) ||| 64))).1 144 0 &&& 248))) := mm_fr_w (by decide) (mm_fr_w (by decide) (w_f_X12_copy _ _ _ _ _ _))
  have h3 := (hf k2 (by simpa using h2)).1
  generalize (mm_w (mm_w (f_X12_copy k1 p1 144 0 32 M) 144 31 (mm_b (((f_X12_copy k1 p1 144 0 32 M).1 144 31 &&& 127) ||| 64))) 144 0 (mm_b ((mm_w (f_X12_copy k1 p1 144 0 32 M) 144 31 (mm_b (((f_X12_copy k1 p1 144 0 32 M).1 144 31 &&& 127) ||| 64))).1 144 0 &&& 248))) = M3 at *
  obtain ⟨d0, d⟩ := r_dec k2 p2 M3
  rw [h3] at d
  have d1 : (r_set k2 p2 M3).1 144 = M3.1 144 := congrFun d0 144
  have er : (mm_wl (mm_wl (mm_wl (mm_wl (f_X12_same 134 132 (mm_wl (f_X12_curved_L53 k2 p2 M3 16) 132 15 ((f_X12_curved_L53 k2 p2 M3 16).2 132 15 &&& 32767))) 133 0 1) 136 0 1) 140 0 56129) 140 1 1) = r_set k2 p2 M3 := rfl
  rw [er]
  generalize r_set k2 p2 M3 = M11 at *
  obtain ⟨-, -, -, c1, c2, -⟩ := r_climbL M11 _ d 255
  generalize f_X12_curved_L206 M11 255 = M12 at *
  have i1 := r_inv 135 (by decide) (by decide) c2 (by decide)
  have i2 := c1.fr (w_f_X12_inverted 135 135 M12) (by decide)
  generalize f_X12_inverted 135 135 M12 = M14 at *
  have m1 := r_mulI 133 i2 i1 (by decide) (by decide) (by decide) (by decide) (by decide)
  generalize f_X12_times 133 133 135 M14 = M15 at *
  obtain ⟨n1, n2⟩ := r_pack 145 (by decide) m1
  generalize f_X12_packed 145 133 M15 = M16 at *
  rw [bv_get (M16.1 145) j hj (n1 j hj), n2]
  unfold cvB cvX
  rw [d1, sbit_congr hs]
  rw [bv_congr (s := M.1 k2) (p := p2) (s' := fun i => M.1 k2 (p2 + i)) (p' := 0) (n := 32) (fun j hj => by rw [Nat.zero_add])]
