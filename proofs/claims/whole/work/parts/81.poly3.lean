/-! Poly1305 in the engine: its beginning, its message, its end -/
theorem and_split (a b c d k : Nat) (ha : a < 2 ^ k) (hc : c < 2 ^ k) : (2 ^ k * b + a) &&& (2 ^ k * d + c) = 2 ^ k * (b &&& d) + (a &&& c) := by
  have hac : a &&& c < 2 ^ k := Nat.lt_of_le_of_lt Nat.and_le_left ha
  refine Nat.eq_of_testBit_eq (fun i => ?_)
  rw [Nat.testBit_and, Nat.testBit_two_pow_mul_add _ ha, Nat.testBit_two_pow_mul_add _ hc, Nat.testBit_two_pow_mul_add _ hac]
  by_cases q : i < k
  · rw [if_pos q, if_pos q, if_pos q, Nat.testBit_and]
  · rw [if_neg q, if_neg q, if_neg q, Nat.testBit_and]
theorem and2 (x k m l : Nat) (hk : k ≤ m) : x &&& (2 ^ m * (2 ^ l - 1) + (2 ^ k - 1)) = 2 ^ m * (x / 2 ^ m % 2 ^ l) + x % 2 ^ k := by
  have hp : 0 < 2 ^ m := Nat.pow_pos (by decide)
  have hkm : 2 ^ k ≤ 2 ^ m := Nat.pow_le_pow_right (by decide) hk
  have hk0 : 0 < 2 ^ k := Nat.pow_pos (by decide)
  have e : x = 2 ^ m * (x / 2 ^ m) + x % 2 ^ m := (Nat.div_add_mod x (2 ^ m)).symm
  have hd : 2 ^ k ∣ 2 ^ m := Nat.pow_dvd_pow 2 hk
  have := and_split (x % 2 ^ m) (x / 2 ^ m) (2 ^ k - 1) (2 ^ l - 1) m (Nat.mod_lt _ hp) (by omega)
  rw [← e] at this
  rw [this, Nat.and_two_pow_sub_one_eq_mod, Nat.and_two_pow_sub_one_eq_mod, Nat.mod_mod_of_dvd x hd]
def clb (s : Nat → Int32) (j : Nat) : Nat := if j % 4 = 3 then ub (s j) % 16 else if j % 4 = 0 ∧ 0 < j then 4 * (ub (s j) / 4) else ub (s j)
def clv (s : Nat → Int32) : Int := ws w8 (fun j => (clb s j : Int)) 16
theorem clb_congr {s s' : Nat → Int32} {j : Nat} (h : s j = s' j) : clb s j = clb s' j := by unfold clb; rw [h]
theorem clv_congr {s s' : Nat → Int32} (h : ∀ j, j < 16 → s j = s' j) : clv s = clv s' := ws_congr (fun i hi => by rw [clb_congr (h i hi)])
theorem ws8_16 (a : Nat → Int) : ws w8 a 16 = a 0 * 1 + a 1 * 256 + a 2 * 65536 + a 3 * 16777216 + a 4 * 4294967296 + a 5 * 1099511627776 + a 6 * 281474976710656 + a 7 * 72057594037927936 + a 8 * 18446744073709551616 + a 9 * 4722366482869645213696 + a 10 * 1208925819614629174706176 + a 11 * 309485009821345068724781056 + a 12 * 79228162514264337593543950336 + a 13 * 20282409603651670423947251286016 + a 14 * 5192296858534827628530496329220096 + a 15 * 1329227995784915872903807060280344576 := by
  show 0 + a 0 * w8 0 + a 1 * w8 1 + a 2 * w8 2 + a 3 * w8 3 + a 4 * w8 4 + a 5 * w8 5 + a 6 * w8 6 + a 7 * w8 7 + a 8 * w8 8 + a 9 * w8 9 + a 10 * w8 10 + a 11 * w8 11 + a 12 * w8 12 + a 13 * w8 13 + a 14 * w8 14 + a 15 * w8 15 = _
  rw [show w8 0 = 1 from by decide, show w8 1 = 256 from by decide, show w8 2 = 65536 from by decide, show w8 3 = 16777216 from by decide, show w8 4 = 4294967296 from by decide, show w8 5 = 1099511627776 from by decide, show w8 6 = 281474976710656 from by decide, show w8 7 = 72057594037927936 from by decide, show w8 8 = 18446744073709551616 from by decide, show w8 9 = 4722366482869645213696 from by decide, show w8 10 = 1208925819614629174706176 from by decide, show w8 11 = 309485009821345068724781056 from by decide, show w8 12 = 79228162514264337593543950336 from by decide, show w8 13 = 20282409603651670423947251286016 from by decide, show w8 14 = 5192296858534827628530496329220096 from by decide, show w8 15 = 1329227995784915872903807060280344576 from by decide]
  omega
theorem p_clamp (b0 b1 b2 b3 b4 b5 b6 b7 b8 b9 b10 b11 b12 b13 b14 b15 : Nat) (h0 : b0 < 256) (h1 : b1 < 256) (h2 : b2 < 256) (h3 : b3 < 256) (h4 : b4 < 256) (h5 : b5 < 256) (h6 : b6 < 256) (h7 : b7 < 256) (h8 : b8 < 256) (h9 : b9 < 256) (h10 : b10 < 256) (h11 : b11 < 256) (h12 : b12 < 256) (h13 : b13 < 256) (h14 : b14 < 256) (h15 : b15 < 256) : 256 * ((b3 + b4 * 256 + b5 * 65536 + b6 * 16777216) / 4 / 256 % 262144) + (b3 + b4 * 256 + b5 * 65536 + b6 * 16777216) / 4 % 4 = b3 % 16 / 4 + 4 * (b4 / 4) * 64 + b5 * 16384 + b6 % 16 * 4194304 ∧ 16384 * ((b6 + b7 * 256 + b8 * 65536 + b9 * 16777216) / 16 / 16384 % 4096) + (b6 + b7 * 256 + b8 * 65536 + b9 * 16777216) / 16 % 256 = b6 / 16 + b7 % 16 * 16 + 4 * (b8 / 4) * 4096 + b9 % 64 * 1048576 ∧ 1048576 * ((b9 + b10 * 256 + b11 * 65536 + b12 * 16777216) / 64 / 1048576 % 64) + (b9 + b10 * 256 + b11 * 65536 + b12 * 16777216) / 64 % 16384 = b9 / 64 + b10 * 4 + b11 % 16 * 1024 + 4 * (b12 / 4) * 262144 ∧ (b12 + b13 * 256 + b14 * 65536 + b15 * 16777216) / 256 % 1048576 = b13 + b14 * 256 + b15 % 16 * 65536 := by
  refine ⟨?_, ?_, ?_, ?_⟩ <;> omega
theorem p_r (k : Nat) (M : mm_M) : ∃ c0 c1 c2 c3 c4 : Int, nb (((f_X1_loadLittle k 0 M) &&& 67108863).toInt64) c0 67108863 ∧ nb (((mm_us (f_X1_loadLittle k 3 M) 2) &&& 67108611).toInt64) c1 67108863 ∧ nb (((mm_us (f_X1_loadLittle k 6 M) 4) &&& 67092735).toInt64) c2 67108863 ∧ nb (((mm_us (f_X1_loadLittle k 9 M) 6) &&& 66076671).toInt64) c3 67108863 ∧ nb (((mm_us (f_X1_loadLittle k 12 M) 8) &&& 1048575).toInt64) c4 1048575 ∧ c0 + c1 * 67108864 + c2 * 4503599627370496 + c3 * 302231454903657293676544 + c4 * 20282409603651670423947251286016 = clv (M.1 k) := by
  unfold clv
  rw [ws8_16]
  rw [show clb (M.1 k) 0 = ub (M.1 k 0) from rfl]
  rw [show clb (M.1 k) 1 = ub (M.1 k 1) from rfl]
  rw [show clb (M.1 k) 2 = ub (M.1 k 2) from rfl]
  rw [show clb (M.1 k) 3 = ub (M.1 k 3) % 16 from rfl]
  rw [show clb (M.1 k) 4 = 4 * (ub (M.1 k 4) / 4) from rfl]
  rw [show clb (M.1 k) 5 = ub (M.1 k 5) from rfl]
  rw [show clb (M.1 k) 6 = ub (M.1 k 6) from rfl]
  rw [show clb (M.1 k) 7 = ub (M.1 k 7) % 16 from rfl]
  rw [show clb (M.1 k) 8 = 4 * (ub (M.1 k 8) / 4) from rfl]
  rw [show clb (M.1 k) 9 = ub (M.1 k 9) from rfl]
  rw [show clb (M.1 k) 10 = ub (M.1 k 10) from rfl]
  rw [show clb (M.1 k) 11 = ub (M.1 k 11) % 16 from rfl]
  rw [show clb (M.1 k) 12 = 4 * (ub (M.1 k 12) / 4) from rfl]
  rw [show clb (M.1 k) 13 = ub (M.1 k 13) from rfl]
  rw [show clb (M.1 k) 14 = ub (M.1 k 14) from rfl]
  rw [show clb (M.1 k) 15 = ub (M.1 k 15) % 16 from rfl]
  have u0 := ub_lt (M.1 k 0)
  have u1 := ub_lt (M.1 k 1)
  have u2 := ub_lt (M.1 k 2)
  have u3 := ub_lt (M.1 k 3)
  have u4 := ub_lt (M.1 k 4)
  have u5 := ub_lt (M.1 k 5)
  have u6 := ub_lt (M.1 k 6)
  have u7 := ub_lt (M.1 k 7)
  have u8 := ub_lt (M.1 k 8)
  have u9 := ub_lt (M.1 k 9)
  have u10 := ub_lt (M.1 k 10)
  have u11 := ub_lt (M.1 k 11)
  have u12 := ub_lt (M.1 k 12)
  have u13 := ub_lt (M.1 k 13)
  have u14 := ub_lt (M.1 k 14)
  have u15 := ub_lt (M.1 k 15)
  have l0 := un_load k 0 M
  have l3 := un_load k 3 M
  have l6 := un_load k 6 M
  have l9 := un_load k 9 M
  have l12 := un_load k 12 M
  simp only [Nat.zero_add, Nat.reduceAdd] at l0 l3 l6 l9 l12
  generalize ub (M.1 k 0) = b0 at *
  generalize ub (M.1 k 1) = b1 at *
  generalize ub (M.1 k 2) = b2 at *
  generalize ub (M.1 k 3) = b3 at *
  generalize ub (M.1 k 4) = b4 at *
  generalize ub (M.1 k 5) = b5 at *
  generalize ub (M.1 k 6) = b6 at *
  generalize ub (M.1 k 7) = b7 at *
  generalize ub (M.1 k 8) = b8 at *
  generalize ub (M.1 k 9) = b9 at *
  generalize ub (M.1 k 10) = b10 at *
  generalize ub (M.1 k 11) = b11 at *
  generalize ub (M.1 k 12) = b12 at *
  generalize ub (M.1 k 13) = b13 at *
  generalize ub (M.1 k 14) = b14 at *
  generalize ub (M.1 k 15) = b15 at *
  obtain ⟨d0, -, -, -, -⟩ := p_dig b0 b1 b2 b3 b4 b5 b6 b7 b8 b9 b10 b11 b12 b13 b14 b15 u0 u1 u2 u3 u4 u5 u6 u7 u8 u9 u10 u11 u12 u13 u14 u15
  obtain ⟨d1, d2, d3, d4⟩ := p_clamp b0 b1 b2 b3 b4 b5 b6 b7 b8 b9 b10 b11 b12 b13 b14 b15 u0 u1 u2 u3 u4 u5 u6 u7 u8 u9 u10 u11 u12 u13 u14 u15
  have m0 : un ((f_X1_loadLittle k 0 M) &&& 67108863) = b0 + b1 * 256 + b2 * 65536 + b3 % 4 * 16777216 := by
    rw [un_mask _ _ 26 (by decide), l0]; exact d0
  have m1 : un ((mm_us (f_X1_loadLittle k 3 M) 2) &&& 67108611) = b3 % 16 / 4 + 4 * (b4 / 4) * 64 + b5 * 16384 + b6 % 16 * 4194304 := by
    rw [un_and, show un (67108611 : Int32) = 2 ^ 8 * (2 ^ 18 - 1) + (2 ^ 2 - 1) from by decide, and2 _ 2 8 18 (by decide), un_us _ _ 2 (by decide) (by decide), l3]; exact d1
  have m2 : un ((mm_us (f_X1_loadLittle k 6 M) 4) &&& 67092735) = b6 / 16 + b7 % 16 * 16 + 4 * (b8 / 4) * 4096 + b9 % 64 * 1048576 := by
    rw [un_and, show un (67092735 : Int32) = 2 ^ 14 * (2 ^ 12 - 1) + (2 ^ 8 - 1) from by decide, and2 _ 8 14 12 (by decide), un_us _ _ 4 (by decide) (by decide), l6]; exact d2
  have m3 : un ((mm_us (f_X1_loadLittle k 9 M) 6) &&& 66076671) = b9 / 64 + b10 * 4 + b11 % 16 * 1024 + 4 * (b12 / 4) * 262144 := by
    rw [un_and, show un (66076671 : Int32) = 2 ^ 20 * (2 ^ 6 - 1) + (2 ^ 14 - 1) from by decide, and2 _ 14 20 6 (by decide), un_us _ _ 6 (by decide) (by decide), l9]; exact d3
  have m4 : un ((mm_us (f_X1_loadLittle k 12 M) 8) &&& 1048575) = b13 + b14 * 256 + b15 % 16 * 65536 := by
    rw [un_mask _ _ 20 (by decide), un_us _ _ 8 (by decide) (by decide), l12]; exact d4
  clear d0 d1 d2 d3 d4 l0 l3 l6 l9 l12
  refine ⟨_, _, _, _, _, nb_i _ _ 67108863 m0 (by omega) (by omega), nb_i _ _ 67108863 m1 (by omega) (by omega), nb_i _ _ 67108863 m2 (by omega) (by omega), nb_i _ _ 67108863 m3 (by omega) (by omega), nb_i _ _ 1048575 m4 (by omega) (by omega), ?_⟩
  omega
theorem p_z90 (σ : mm_M) : ∀ t, ∀ i, i < t → (f_X6_begin_L90 σ t).2 38 i = 0
  | 0, i, hi => absurd hi (by omega)
  | t + 1, i, hi => by
    have ih := p_z90 σ t
    rw [f_X6_begin_L90]
    generalize f_X6_begin_L90 σ t = R at *
    rw [rd_wl]
    by_cases e : i = t
    · rw [if_pos ⟨rfl, e⟩]
    · rw [if_neg (fun q => e q.2)]; exact ih i (by omega)
theorem p_last (k : Nat) (hk : k ≠ 40) (σ : mm_M) : ∀ t, ∀ i, i < t → (f_X6_begin_L110 k σ t).1 40 i = f_X1_loadLittle k (16 + 4 * i) σ
  | 0, i, hi => absurd hi (by omega)
  | t + 1, i, hi => by
    have ih := p_last k hk σ t
    have f := (w_f_X6_begin_L110 k σ t k (by simp; omega)).1
    rw [f_X6_begin_L110]
    generalize f_X6_begin_L110 k σ t = R at *
    rw [rd_w]
    by_cases e : i = t
    · rw [if_pos ⟨rfl, e⟩, e]
      unfold f_X1_loadLittle
      rw [f]
    · rw [if_neg (fun q => e q.2)]; exact ih i (by omega)
theorem ll_wl (k p : Nat) (M : mm_M) (a b : Nat) (v : Int64) : f_X1_loadLittle k p (mm_wl M a b v) = f_X1_loadLittle k p M := rfl
/-- what is added to the tag in the end -/
def lst (M : mm_M) : Int := (un (M.1 40 0) : Int) + (un (M.1 40 1) : Int) * 4294967296 + (un (M.1 40 2) : Int) * 18446744073709551616 + (un (M.1 40 3) : Int) * 79228162514264337593543950336
theorem p_begin (k : Nat) (hk : k ≠ 40) (M : mm_M) : po_is (f_X6_begin k M) (clv (M.1 k)) 0 ∧ lst (f_X6_begin k M) = bv (M.1 k) 16 16 := by
  unfold f_X6_begin
  try dsimp only
  obtain ⟨c0, c1, c2, c3, c4, k0, k1, k2, k3, k4, kv⟩ := p_r k M
  simp only [ll_wl]
  obtain ⟨N, e, N0, N1, N2, N3, N4, Nf⟩ : ∃ N, mm_wl (mm_wl (mm_wl (mm_wl (mm_wl M 37 0 ((f_X1_loadLittle k 0 M) &&& 67108863).toInt64) 37 1 ((mm_us (f_X1_loadLittle k 3 M) 2) &&& 67108611).toInt64) 37 2 ((mm_us (f_X1_loadLittle k 6 M) 4) &&& 67092735).toInt64) 37 3 ((mm_us (f_X1_loadLittle k 9 M) 6) &&& 66076671).toInt64) 37 4 ((mm_us (f_X1_loadLittle k 12 M) 8) &&& 1048575).toInt64 = N ∧ lg N 37 0 = c0 ∧ lg N 37 1 = c1 ∧ lg N 37 2 = c2 ∧ lg N 37 3 = c3 ∧ lg N 37 4 = c4 ∧ N.1 = M.1 := by
    refine ⟨_, rfl, ?_, ?_, ?_, ?_, ?_, rfl⟩
    · rw [← k0.1]; unfold lg; simp [rd_wl]
    · rw [← k1.1]; unfold lg; simp [rd_wl]
    · rw [← k2.1]; unfold lg; simp [rd_wl]
    · rw [← k3.1]; unfold lg; simp [rd_wl]
    · rw [← k4.1]; unfold lg; simp [rd_wl]
  rw [e]
  clear e
  have z := p_z90 N 5
  have w1 := w_f_X6_begin_L90 N 5
  have w1' : (f_X6_begin_L90 N 5).1 = N.1 := by
    have : ∀ t, (f_X6_begin_L90 N t).1 = N.1 := fun t => by
      induction t with
      | zero => rfl
      | succ t ih => rw [f_X6_begin_L90, rd_wl1]; exact ih
    exact this 5
  generalize f_X6_begin_L90 N 5 = N1' at *
  have la := p_last k hk N1' 4
  have w2 := w_f_X6_begin_L110 k N1' 4
  generalize f_X6_begin_L110 k N1' 4 = N2' at *
  have l37 : lg N2' 37 = lg N 37 := by unfold lg; rw [(w2 37 (by decide)).2, (w1 37 (by decide)).2]
  have l38 : ∀ i, i < 5 → lg N2' 38 i = 0 := fun i hi => by unfold lg; rw [(w2 38 (by decide)).2, z i hi]; rfl
  refine ⟨⟨⟨?_, ?_, ?_⟩, ?_, ?_, 0, ?_⟩, ?_⟩
  · intro i hi
    rw [l37]
    have : i = 0 ∨ i = 1 ∨ i = 2 ∨ i = 3 ∨ i = 4 := by omega
    rcases this with h | h | h | h | h <;> subst h
    · rw [N0]; exact k0.2
    · rw [N1]; exact k1.2
    · rw [N2]; exact k2.2
    · rw [N3]; exact k3.2
    · rw [N4]; have := k4.2; omega
  · rw [l37, N4]; exact k4.2.2
  · rw [l37, ws26_5, N0, N1, N2, N3, N4]; exact kv
  · rw [l38 0 (by decide)]; decide
  · intro i h1 h2
    rw [l38 i h2]; decide
  · rw [ws_zero l38]; decide
  · unfold lst
    rw [la 0 (by decide), la 1 (by decide), la 2 (by decide), la 3 (by decide), un_load, un_load, un_load, un_load, w1', Nf, bv16]
    simp only [Nat.mul_zero, Nat.add_zero, Nat.mul_one, Nat.reduceMul, Nat.reduceAdd]
    omega
/-! its message -/
def pyB (m : Nat → Nat) (n t : Nat) : Int := ws w8 (fun j => if t * 16 + j < n then (m (t * 16 + j) : Int) else 0) 16 + 340282366920938463463374607431768211456
def pyF (ρ a : Int) (m : Nat → Nat) (n : Nat) : Nat → Int
  | 0 => a
  | t + 1 => (pyF ρ a m n t + pyB m n t) * ρ
theorem pyB_congr {m m' : Nat → Nat} {n : Nat} (h : ∀ j, j < n → m j = m' j) (t : Nat) : pyB m n t = pyB m' n t := by
  unfold pyB
  rw [ws_congr (fun i hi => ?_)]
  by_cases c : t * 16 + i < n
  · rw [if_pos c, if_pos c, h _ c]
  · rw [if_neg c, if_neg c]
theorem pyF_congr {m m' : Nat → Nat} {n : Nat} (h : ∀ j, j < n → m j = m' j) (ρ a : Int) : ∀ t, pyF ρ a m n t = pyF ρ a m' n t
  | 0 => rfl
  | t + 1 => by rw [pyF, pyF, pyF_congr h ρ a t, pyB_congr h]
theorem p_fill (k p n t : Nat) (hk : k ≠ 39) (σ : mm_M) : ∀ u, ∀ j, j < u → (f_X6_absorb_L12 k p n t σ u).1 39 j = if t * 16 + j < n then σ.1 k (p + (t * 16 + j)) else 0
  | 0, j, hj => absurd hj (by omega)
  | u + 1, j, hj => by
    have ih := p_fill k p n t hk σ u
    have f := (w_f_X6_absorb_L12 k p n t σ u k (by simp; omega)).1
    rw [f_X6_absorb_L12]
    generalize f_X6_absorb_L12 k p n t σ u = R at *
    unfold f_X6_absorb_B1
    by_cases e : j = u
    · subst e
      by_cases c : n ≤ t * 16 + j
      · rw [if_pos c, if_neg (by omega), rd_wS]
      · rw [if_neg c, if_pos (by omega), rd_wS, f, Nat.add_assoc]
    · by_cases c : n ≤ t * 16 + u
      · rw [if_pos c, rd_wN _ _ _ _ (Or.inr e)]; exact ih j (by omega)
      · rw [if_neg c, rd_wN _ _ _ _ (Or.inr e)]; exact ih j (by omega)
theorem po_is.fr {M N : mm_M} {ρ a : Int} {L : List Nat} (h : po_is M ρ a) (w : mm_fr L M N) (h1 : 37 ∉ L) (h2 : 38 ∉ L) : po_is N ρ a := by
  have l37 : lg N 37 = lg M 37 := by unfold lg; rw [(w 37 h1).2]
  have l38 : lg N 38 = lg M 38 := by unfold lg; rw [(w 38 h2).2]
  unfold po_is
  rw [l37, l38]
  exact h
theorem p_abL (k p n : Nat) (hk : k ≠ 39) (hk2 : k ≠ 38) (σ : mm_M) (ρ a : Int) (h : po_is σ ρ a) : ∀ t, po_is (f_X6_absorb_L3 k p n σ t) ρ (pyF ρ a (fun j => ub (σ.1 k (p + j))) n t)
  | 0 => h
  | t + 1 => by
    have ih := p_abL k p n hk hk2 σ ρ a h t
    have f := (w_f_X6_absorb_L3 k p n σ t k (by simp; omega)).1
    rw [f_X6_absorb_L3, pyF]
    generalize f_X6_absorb_L3 k p n σ t = R at *
    have g := p_fill k p n t hk R 16
    have w := w_f_X6_absorb_L12 k p n t R 16
    generalize f_X6_absorb_L12 k p n t R 16 = S at *
    have := p_add S ρ _ (ih.fr w (by decide) (by decide))
    have e : bv (S.1 39) 0 16 + 340282366920938463463374607431768211456 = pyB (fun j => ub (σ.1 k (p + j))) n t := by
      unfold bv pyB
      rw [ws_congr (fun j hj => ?_)]
      rw [Nat.zero_add, g j hj, f]
      by_cases c : t * 16 + j < n
      · rw [if_pos c, if_pos c]
      · rw [if_neg c, if_neg c]; decide
    rw [e] at this
    exact this
theorem p_absorb (k p n : Nat) (hk : k ≠ 39) (hk2 : k ≠ 38) (M : mm_M) (ρ a : Int) (h : po_is M ρ a) : po_is (f_X6_absorb k p n M) ρ (pyF ρ a (fun j => ub (M.1 k (p + j))) n ((n + 15) / 16)) := by
  unfold f_X6_absorb
  exact p_abL k p n hk hk2 M ρ a h _
