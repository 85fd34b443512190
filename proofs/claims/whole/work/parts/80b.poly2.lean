/-! Poly1305 in the engine: a block -/
theorem ws26_W (a : Nat → Int) : ws w26 a 5 = a 0 + a 1 * 67108864 + a 2 * 67108864 ^ 2 + a 3 * 67108864 ^ 3 + a 4 * 67108864 ^ 4 := by
  show 0 + a 0 * 67108864 ^ 0 + a 1 * 67108864 ^ 1 + a 2 * 67108864 ^ 2 + a 3 * 67108864 ^ 3 + a 4 * 67108864 ^ 4 = _
  rw [Int.pow_zero, Int.pow_one]
  omega
def p_x0 (M : mm_M) : Int64 := (M.2 38 0) + ((((f_X1_loadLittle 39 0 M) &&& (67108863 : Int32)) : Int32).toInt64)
def p_x1 (M : mm_M) : Int64 := (M.2 38 1) + ((((mm_us (f_X1_loadLittle 39 3 M) (2 : Int32)) &&& (67108863 : Int32)) : Int32).toInt64)
def p_x2 (M : mm_M) : Int64 := (M.2 38 2) + ((((mm_us (f_X1_loadLittle 39 6 M) (4 : Int32)) &&& (67108863 : Int32)) : Int32).toInt64)
def p_x3 (M : mm_M) : Int64 := (M.2 38 3) + ((((mm_us (f_X1_loadLittle 39 9 M) (6 : Int32)) &&& (67108863 : Int32)) : Int32).toInt64)
def p_x4 (M : mm_M) : Int64 := (M.2 38 4) + ((((mm_us (f_X1_loadLittle 39 12 M) (8 : Int32)) ||| (16777216 : Int32)) : Int32).toInt64)
def p_d0 (M : mm_M) : Int64 := (((((p_x0 M) * (M.2 37 0)) + ((p_x1 M) * (5 * M.2 37 4))) + ((p_x2 M) * (5 * M.2 37 3))) + ((p_x3 M) * (5 * M.2 37 2))) + ((p_x4 M) * (5 * M.2 37 1))
def p_d1 (M : mm_M) : Int64 := (((((p_x0 M) * (M.2 37 1)) + ((p_x1 M) * (M.2 37 0))) + ((p_x2 M) * (5 * M.2 37 4))) + ((p_x3 M) * (5 * M.2 37 3))) + ((p_x4 M) * (5 * M.2 37 2))
def p_d2 (M : mm_M) : Int64 := (((((p_x0 M) * (M.2 37 2)) + ((p_x1 M) * (M.2 37 1))) + ((p_x2 M) * (M.2 37 0))) + ((p_x3 M) * (5 * M.2 37 4))) + ((p_x4 M) * (5 * M.2 37 3))
def p_d3 (M : mm_M) : Int64 := (((((p_x0 M) * (M.2 37 3)) + ((p_x1 M) * (M.2 37 2))) + ((p_x2 M) * (M.2 37 1))) + ((p_x3 M) * (M.2 37 0))) + ((p_x4 M) * (5 * M.2 37 4))
def p_d4 (M : mm_M) : Int64 := (((((p_x0 M) * (M.2 37 4)) + ((p_x1 M) * (M.2 37 3))) + ((p_x2 M) * (M.2 37 2))) + ((p_x3 M) * (M.2 37 1))) + ((p_x4 M) * (M.2 37 0))
theorem p_mrow (M : mm_M) : f_X6_addBlock M = f_X6_carry (mm_wl (mm_wl (mm_wl (mm_wl (mm_wl M 38 0 (p_d0 M)) 38 1 (p_d1 M)) 38 2 (p_d2 M)) 38 3 (p_d3 M)) 38 4 (p_d4 M)) := by
  unfold f_X6_addBlock p_d0 p_d1 p_d2 p_d3 p_d4 p_x0 p_x1 p_x2 p_x3 p_x4
  rfl
theorem p_mget (M : mm_M) (d0 d1 d2 d3 d4 : Int64) : ∃ N, mm_wl (mm_wl (mm_wl (mm_wl (mm_wl M 38 0 d0) 38 1 d1) 38 2 d2) 38 3 d3) 38 4 d4 = N ∧ lg N 38 0 = d0.toInt ∧ lg N 38 1 = d1.toInt ∧ lg N 38 2 = d2.toInt ∧ lg N 38 3 = d3.toInt ∧ lg N 38 4 = d4.toInt := by
  refine ⟨_, rfl, ?_, ?_, ?_, ?_, ?_⟩ <;> unfold lg <;> simp [rd_wl]
theorem p_add (M : mm_M) (ρ a : Int) (h : po_is M ρ a) : po_is (f_X6_addBlock M) ρ ((a + (bv (M.1 39) 0 16 + 340282366920938463463374607431768211456)) * ρ) := by
  obtain ⟨⟨r1, r2, r3⟩, s0, s1, q, s2⟩ := h
  obtain ⟨c0, c1, c2, c3, c4, k0, k1, k2, k3, k4, kv⟩ := p_blk 39 M
  rw [← kv]
  clear kv
  have w37 : (f_X6_addBlock M).2 37 = M.2 37 := (w_f_X6_addBlock M 37 (by decide)).2
  have l37 : lg (f_X6_addBlock M) 37 = lg M 37 := by unfold lg; rw [w37]
  refine ⟨by rw [l37]; exact ⟨r1, r2, r3⟩, ?_⟩
  have R0 := (show nb (M.2 37 0) (lg M 37 0) 67108863 from ⟨rfl, r1 0 (by decide)⟩)
  have R1 := (show nb (M.2 37 1) (lg M 37 1) 67108863 from ⟨rfl, r1 1 (by decide)⟩)
  have R2 := (show nb (M.2 37 2) (lg M 37 2) 67108863 from ⟨rfl, r1 2 (by decide)⟩)
  have R3 := (show nb (M.2 37 3) (lg M 37 3) 67108863 from ⟨rfl, r1 3 (by decide)⟩)
  have R4 := (show nb (M.2 37 4) (lg M 37 4) 1048575 from ⟨rfl, (r1 4 (by decide)).1, r2⟩)
  have F : nb 5 5 5 := ⟨rfl, by decide, by decide⟩
  have U1 := F.mul R1 (by decide)
  have U2 := F.mul R2 (by decide)
  have U3 := F.mul R3 (by decide)
  have U4 := F.mul R4 (by decide)
  have X0 : nb (p_x0 M) (lg M 38 0 + c0) 4362076159 := (show nb (M.2 38 0) (lg M 38 0) 4294967296 from ⟨rfl, s0⟩).add k0 (by decide)
  have X1 : nb (p_x1 M) (lg M 38 1 + c1) 134217726 := (show nb (M.2 38 1) (lg M 38 1) 67108863 from ⟨rfl, s1 1 (by decide) (by decide)⟩).add k1 (by decide)
  have X2 : nb (p_x2 M) (lg M 38 2 + c2) 134217726 := (show nb (M.2 38 2) (lg M 38 2) 67108863 from ⟨rfl, s1 2 (by decide) (by decide)⟩).add k2 (by decide)
  have X3 : nb (p_x3 M) (lg M 38 3 + c3) 134217726 := (show nb (M.2 38 3) (lg M 38 3) 67108863 from ⟨rfl, s1 3 (by decide) (by decide)⟩).add k3 (by decide)
  have X4 : nb (p_x4 M) (lg M 38 4 + c4) 100663294 := (show nb (M.2 38 4) (lg M 38 4) 67108863 from ⟨rfl, s1 4 (by decide) (by decide)⟩).add k4 (by decide)
  have D0 : nb (p_d0 M) _ _ := ((((X0.mul R0 (by decide)).add (X1.mul U4 (by decide)) (by decide)).add (X2.mul U3 (by decide)) (by decide)).add (X3.mul U2 (by decide)) (by decide)).add (X4.mul U1 (by decide)) (by decide)
  have D1 : nb (p_d1 M) _ _ := ((((X0.mul R1 (by decide)).add (X1.mul R0 (by decide)) (by decide)).add (X2.mul U4 (by decide)) (by decide)).add (X3.mul U3 (by decide)) (by decide)).add (X4.mul U2 (by decide)) (by decide)
  have D2 : nb (p_d2 M) _ _ := ((((X0.mul R2 (by decide)).add (X1.mul R1 (by decide)) (by decide)).add (X2.mul R0 (by decide)) (by decide)).add (X3.mul U4 (by decide)) (by decide)).add (X4.mul U3 (by decide)) (by decide)
  have D3 : nb (p_d3 M) _ _ := ((((X0.mul R3 (by decide)).add (X1.mul R2 (by decide)) (by decide)).add (X2.mul R1 (by decide)) (by decide)).add (X3.mul R0 (by decide)) (by decide)).add (X4.mul U4 (by decide)) (by decide)
  have D4 : nb (p_d4 M) _ _ := ((((X0.mul R4 (by decide)).add (X1.mul R3 (by decide)) (by decide)).add (X2.mul R2 (by decide)) (by decide)).add (X3.mul R1 (by decide)) (by decide)).add (X4.mul R0 (by decide)) (by decide)
  have D0 := D0.le (c := 1152921504606846976) (by decide)
  have D1 := D1.le (c := 1152921504606846976) (by decide)
  have D2 := D2.le (c := 1152921504606846976) (by decide)
  have D3 := D3.le (c := 1152921504606846976) (by decide)
  have D4 := D4.le (c := 41000000000000000) (by decide)
  clear X0 X1 X2 X3 X4 R0 R1 R2 R3 R4 U1 U2 U3 U4 F k0 k1 k2 k3 k4
  rw [p_mrow]
  obtain ⟨N, e, N0, N1, N2, N3, N4⟩ := p_mget M (p_d0 M) (p_d1 M) (p_d2 M) (p_d3 M) (p_d4 M)
  rw [e]
  rw [D0.1] at N0
  rw [D1.1] at N1
  rw [D2.1] at N2
  rw [D3.1] at N3
  rw [D4.1] at N4
  have B0 := D0.2
  have B1 := D1.2
  have B2 := D2.2
  have B3 := D3.2
  have B4 := D4.2
  clear D0 D1 D2 D3 D4 e w37 l37
  rw [← N0] at B0
  rw [← N1] at B1
  rw [← N2] at B2
  rw [← N3] at B3
  rw [← N4] at B4
  obtain ⟨t1, t2, q2, t3⟩ := p_carry N (fun i hi => by
    have : i = 0 ∨ i = 1 ∨ i = 2 ∨ i = 3 ∨ i = 4 := by omega
    rcases this with h | h | h | h | h <;> subst h <;> omega) B4.2
  refine ⟨t1, t2, ?_⟩
  have kr := p_ring 67108864 (lg M 38 0 + c0) (lg M 38 1 + c1) (lg M 38 2 + c2) (lg M 38 3 + c3) (lg M 38 4 + c4) (lg M 37 0) (lg M 37 1) (lg M 37 2) (lg M 37 3) (lg M 37 4)
  rw [← N0, ← N1, ← N2, ← N3, ← N4] at kr
  rw [t3]
  rw [ws26_W] at r3 s2 ⊢
  clear t1 t2 t3 B0 B1 B2 B3 B4 N0 N1 N2 N3 N4 r1 r2 s0 s1
  rw [show (4503599627370496 : Int) = 67108864 ^ 2 from by decide, show (302231454903657293676544 : Int) = 67108864 ^ 3 from by decide, show (20282409603651670423947251286016 : Int) = 67108864 ^ 4 from by decide]
  rw [r3, show (67108864 : Int) ^ 5 - 5 = pQ from by decide] at kr
  generalize (lg M 38 1 + c1) * lg M 37 4 + (lg M 38 2 + c2) * lg M 37 3 + (lg M 38 3 + c3) * lg M 37 2 + (lg M 38 4 + c4) * lg M 37 1 + ((lg M 38 2 + c2) * lg M 37 4 + (lg M 38 3 + c3) * lg M 37 3 + (lg M 38 4 + c4) * lg M 37 2) * 67108864 + ((lg M 38 3 + c3) * lg M 37 4 + (lg M 38 4 + c4) * lg M 37 3) * 67108864 ^ 2 + (lg M 38 4 + c4) * lg M 37 4 * 67108864 ^ 3 = Q at kr
  refine ⟨q * ρ - Q + q2, ?_⟩
  have e1 : (lg M 38 0 + c0) + (lg M 38 1 + c1) * 67108864 + (lg M 38 2 + c2) * 67108864 ^ 2 + (lg M 38 3 + c3) * 67108864 ^ 3 + (lg M 38 4 + c4) * 67108864 ^ 4 = a + q * pQ + (c0 + c1 * 67108864 + c2 * 67108864 ^ 2 + c3 * 67108864 ^ 3 + c4 * 67108864 ^ 4) := by
    rw [← s2]
    generalize (67108864 : Int) ^ 2 = w2
    generalize (67108864 : Int) ^ 3 = w3
    generalize (67108864 : Int) ^ 4 = w4
    clear kr s2 r3
    grind
  rw [e1] at kr
  generalize c0 + c1 * 67108864 + c2 * 67108864 ^ 2 + c3 * 67108864 ^ 3 + c4 * 67108864 ^ 4 = C at *
  generalize lg N 38 0 + lg N 38 1 * 67108864 + lg N 38 2 * 67108864 ^ 2 + lg N 38 3 * 67108864 ^ 3 + lg N 38 4 * 67108864 ^ 4 = V at *
  clear e1 s2 r3
  grind
