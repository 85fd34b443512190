/-! Poly1305 in the engine: the tag -/
theorem st_N (v : Int32) {k a : Nat} (p : Nat) (M : mm_M) (h : a ≠ k) : (f_X1_storeLittle v k p M).1 a = M.1 a := (w_f_X1_storeLittle v k p M a (by simpa using h)).1
theorem isb_four (k : Nat) (a b c d : Int32) (M : mm_M) (j : Nat) (hj : j < 16) : ((f_X1_storeLittle d k 12 (f_X1_storeLittle c k 8 (f_X1_storeLittle b k 4 (f_X1_storeLittle a k 0 M)))).1 k j).toInt8.toInt32 = (f_X1_storeLittle d k 12 (f_X1_storeLittle c k 8 (f_X1_storeLittle b k 4 (f_X1_storeLittle a k 0 M)))).1 k j := by
  rw [rd_store, rd_store, rd_store, rd_store]
  by_cases c12 : 12 ≤ j
  · have : j = 12 ∨ j = 13 ∨ j = 14 ∨ j = 15 := by omega
    rcases this with rfl | rfl | rfl | rfl <;> exact isb_b _
  · rw [if_neg (by omega), if_neg (by omega), if_neg (by omega), if_neg (by omega)]
    by_cases c8 : 8 ≤ j
    · have : j = 8 ∨ j = 9 ∨ j = 10 ∨ j = 11 := by omega
      rcases this with rfl | rfl | rfl | rfl <;> exact isb_b _
    · rw [if_neg (by omega), if_neg (by omega), if_neg (by omega), if_neg (by omega)]
      by_cases c4 : 4 ≤ j
      · have : j = 4 ∨ j = 5 ∨ j = 6 ∨ j = 7 := by omega
        rcases this with rfl | rfl | rfl | rfl <;> exact isb_b _
      · rw [if_neg (by omega), if_neg (by omega), if_neg (by omega), if_neg (by omega)]
        have : j = 0 ∨ j = 1 ∨ j = 2 ∨ j = 3 := by omega
        rcases this with rfl | rfl | rfl | rfl <;> exact isb_b _
/-- the tag's number -/
def pyT (ρ a S : Int) (x y : Nat) : Int := ((((a + ((x : Int) + (y : Int) * 18446744073709551616 + 340282366920938463463374607431768211456)) * ρ) % pQ) + S) % 340282366920938463463374607431768211456
theorem p_finish (v1 v2 : Int32) (k1 : Nat) (hk : k1 ∉ [38, 39, 40]) (M : mm_M) (ρ a : Int) (h : po_is M ρ a) : (∀ j, j < 16 → ((f_X6_finish v1 v2 k1 M).1 k1 j).toInt8.toInt32 = (f_X6_finish v1 v2 k1 M).1 k1 j) ∧ bv ((f_X6_finish v1 v2 k1 M).1 k1) 0 16 = pyT ρ a (lst M) (un v1) (un v2) := by
  have h40 : 40 ≠ k1 := by simp at hk; omega
  unfold f_X6_finish
  try dsimp only
  have b4 := bv_four 39 v1 0 v2 0 M
  have w4 : mm_fr [39] M (f_X1_storeLittle 0 39 12 (f_X1_storeLittle v2 39 8 (f_X1_storeLittle 0 39 4 (f_X1_storeLittle v1 39 0 M)))) := (w_f_X1_storeLittle _ _ _ _).on (by simp) ((w_f_X1_storeLittle _ _ _ _).on (by simp) ((w_f_X1_storeLittle _ _ _ _).on (by simp) (w_f_X1_storeLittle _ _ _ _)))
  generalize (f_X1_storeLittle 0 39 12 (f_X1_storeLittle v2 39 8 (f_X1_storeLittle 0 39 4 (f_X1_storeLittle v1 39 0 M)))) = M4 at *
  have a5 := p_add M4 ρ a (h.fr w4 (by decide) (by decide))
  have w5 := w_f_X6_addBlock M4
  generalize f_X6_addBlock M4 = M5 at *
  obtain ⟨-, a51, a52, q, a53⟩ := a5
  obtain ⟨r1, r2⟩ := p_red M5 a51 a52
  have w6 := w_f_X6_reduce M5
  generalize f_X6_reduce M5 = M6 at *
  have e40 : M6.1 40 = M.1 40 := by rw [(w6 40 (by decide)).1, (w5 40 (by decide)).1, (w4 40 (by decide)).1]
  simp only [st_2, st_N _ _ _ h40]
  refine ⟨fun j hj => isb_four k1 _ _ _ _ M6 j hj, ?_⟩
  rw [bv_four]
  have H0 : nb (M6.2 38 0) (lg M6 38 0) 67108863 := ⟨rfl, r1 0 (by decide)⟩
  have H1 : nb (M6.2 38 1) (lg M6 38 1) 67108863 := ⟨rfl, r1 1 (by decide)⟩
  have H2 : nb (M6.2 38 2) (lg M6 38 2) 67108863 := ⟨rfl, r1 2 (by decide)⟩
  have H3 : nb (M6.2 38 3) (lg M6 38 3) 67108863 := ⟨rfl, r1 3 (by decide)⟩
  have H4 : nb (M6.2 38 4) (lg M6 38 4) 67108863 := ⟨rfl, r1 4 (by decide)⟩
  have L : ∀ i, nb ((M6.1 40 i).toInt64 &&& 4294967295) (un (M6.1 40 i)) 4294967295 := fun i => ⟨l_u32 _, by omega, by have := un_lt (M6.1 40 i); omega⟩
  have S0 := (nb_32 (nb_or 26 67108864 (by decide) H0 (nb_sl H1 (((26 : Int32)).toInt64 &&& 63) 26 67108864 4503599560261632 (by decide) (by decide) (by decide) (by decide) (by decide)) H1.2.1 (by decide) (by decide))).add (L 0) (by decide)
  generalize (M6.2 38 0 ||| M6.2 38 1 <<< (((26 : Int32)).toInt64 &&& 63)) &&& 4294967295 = z0 at *
  generalize z0 + ((M6.1 40 0).toInt64 &&& 4294967295) = s0 at *
  have hq0 := S0.2
  have S1 := ((nb_ul S0 32 32 4294967296 1 (by decide) (by decide) (by decide) (by decide) (by omega)).add (nb_32 (nb_or 20 1048576 (by decide) (nb_ul H1 6 6 64 1048575 (by decide) (by decide) (by decide) (by decide) (by have := H1.2; omega)) (nb_sl H2 (((20 : Int32)).toInt64 &&& 63) 20 1048576 70368743129088 (by decide) (by decide) (by decide) (by decide) (by decide)) H2.2.1 (by decide) (by decide))) (by decide)).add (L 1) (by decide)
  generalize mm_ul s0 32 + ((mm_ul (M6.2 38 1) 6 ||| M6.2 38 2 <<< (((20 : Int32)).toInt64 &&& 63)) &&& 4294967295) + ((M6.1 40 1).toInt64 &&& 4294967295) = s1 at *
  have hq1 := S1.2
  have S2 := ((nb_ul S1 32 32 4294967296 2 (by decide) (by decide) (by decide) (by decide) (by omega)).add (nb_32 (nb_or 14 16384 (by decide) (nb_ul H2 12 12 4096 16383 (by decide) (by decide) (by decide) (by decide) (by have := H2.2; omega)) (nb_sl H3 (((14 : Int32)).toInt64 &&& 63) 14 16384 1099511611392 (by decide) (by decide) (by decide) (by decide) (by decide)) H3.2.1 (by decide) (by decide))) (by decide)).add (L 2) (by decide)
  generalize mm_ul s1 32 + ((mm_ul (M6.2 38 2) 12 ||| M6.2 38 3 <<< (((14 : Int32)).toInt64 &&& 63)) &&& 4294967295) + ((M6.1 40 2).toInt64 &&& 4294967295) = s2 at *
  have hq2 := S2.2
  have S3 := ((nb_ul S2 32 32 4294967296 3 (by decide) (by decide) (by decide) (by decide) (by omega)).add (nb_32 (nb_or 8 256 (by decide) (nb_ul H3 18 18 262144 255 (by decide) (by decide) (by decide) (by decide) (by have := H3.2; omega)) (nb_sl H4 (((8 : Int32)).toInt64 &&& 63) 8 256 17179868928 (by decide) (by decide) (by decide) (by decide) (by decide)) H4.2.1 (by decide) (by decide))) (by decide)).add (L 3) (by decide)
  generalize mm_ul s2 32 + ((mm_ul (M6.2 38 3) 18 ||| M6.2 38 4 <<< (((8 : Int32)).toInt64 &&& 63)) &&& 4294967295) + ((M6.1 40 3).toInt64 &&& 4294967295) = s3 at *
  rw [nb_st S0, nb_st S1, nb_st S2, nb_st S3]
  have ul : ∀ i, 0 ≤ (un (M6.1 40 i) : Int) ∧ (un (M6.1 40 i) : Int) ≤ 4294967295 := fun i => by have := un_lt (M6.1 40 i); omega
  rw [p_words (lg M6 38 0) (lg M6 38 1) (lg M6 38 2) (lg M6 38 3) (lg M6 38 4) _ _ _ _ (r1 0 (by decide)) (r1 1 (by decide)) (r1 2 (by decide)) (r1 3 (by decide)) (r1 4 (by decide)) (ul 0) (ul 1) (ul 2) (ul 3) _ _ _ _ rfl rfl rfl rfl]
  rw [ws26_5] at r2
  rw [r2, a53, Int.add_mul_emod_self_right, b4, e40]
  unfold pyT lst
  rw [show un (0 : Int32) = 0 from rfl]
  simp
theorem bv_getN (s : Nat → Int32) (j n : Nat) (hj : j < n) (hs : (s j).toInt8.toInt32 = s j) : s j = mm_b (Int32.ofInt (bv s 0 n / w8 j % 256)) := by
  refine by_eq hs (isb_b _) ?_
  rw [ub_b]
  have g := ws8_get (fun j => (ub (s (0 + j)) : Int)) j n hj (fun i _ => ub_in s 0 i)
  unfold bv
  rw [g, Nat.zero_add]
  have l := ub_lt (s j)
  have u := un_ofInt (ub (s j) : Int) (by omega) (by omega)
  unfold ub at *
  omega
/-- the tag -/
def pyR (ρ a S : Int) (x y j : Nat) : Int32 := mm_b (Int32.ofInt (pyT ρ a S x y / w8 j % 256))
theorem e_tag (v1 v2 : Int32) (k1 : Nat) (hk : k1 ∉ [38, 39, 40]) (M : mm_M) (ρ a : Int) (h : po_is M ρ a) (j : Nat) (hj : j < 16) : (f_X6_finish v1 v2 k1 M).1 k1 j = pyR ρ a (lst M) (un v1) (un v2) j := by
  obtain ⟨h1, h2⟩ := p_finish v1 v2 k1 hk M ρ a h
  rw [bv_getN _ j 16 hj (h1 j hj), h2]
  rfl
