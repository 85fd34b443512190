/-! whole numbers under 64 and 32 bits, as long as nothing wraps around -/
theorem rd_wl (M : mm_M) (k j : Nat) (v : Int64) (a b : Nat) : (mm_wl M k j v).2 a b = if a = k ∧ b = j then v else M.2 a b := rfl
theorem rd_w (M : mm_M) (k j : Nat) (v : Int32) (a b : Nat) : (mm_w M k j v).1 a b = if a = k ∧ b = j then v else M.1 a b := rfl
theorem rd_wlS (M : mm_M) (k j : Nat) (v : Int64) : (mm_wl M k j v).2 k j = v := by rw [rd_wl, if_pos ⟨rfl, rfl⟩]
theorem rd_wS (M : mm_M) (k j : Nat) (v : Int32) : (mm_w M k j v).1 k j = v := by rw [rd_w, if_pos ⟨rfl, rfl⟩]
theorem rd_wlN (M : mm_M) (k j : Nat) (v : Int64) {a b : Nat} (h : a ≠ k ∨ b ≠ j) : (mm_wl M k j v).2 a b = M.2 a b := by
  rw [rd_wl, if_neg]; rintro ⟨h1, h2⟩; rcases h with h | h
  · exact h h1
  · exact h h2
theorem rd_wN (M : mm_M) (k j : Nat) (v : Int32) {a b : Nat} (h : a ≠ k ∨ b ≠ j) : (mm_w M k j v).1 a b = M.1 a b := by
  rw [rd_w, if_neg]; rintro ⟨h1, h2⟩; rcases h with h | h
  · exact h h1
  · exact h h2
theorem rd_wl1 (M : mm_M) (k j : Nat) (v : Int64) : (mm_wl M k j v).1 = M.1 := rfl
theorem rd_w2 (M : mm_M) (k j : Nat) (v : Int32) : (mm_w M k j v).2 = M.2 := rfl
/-- a long that is the whole number v, which is at most b on both sides -/
def ib (x : Int64) (v : Int) (b : Nat) : Prop := x.toInt = v ∧ v.natAbs ≤ b
theorem ib.add {x y : Int64} {v u : Int} {b c : Nat} (h : ib x v b) (g : ib y u c) (hb : b + c < 2 ^ 63) : ib (x + y) (v + u) (b + c) := by
  obtain ⟨rfl, h2⟩ := h
  obtain ⟨rfl, g2⟩ := g
  have := Int.natAbs_add_le x.toInt y.toInt
  refine ⟨?_, by omega⟩
  rw [Int64.toInt_add]
  exact Int.bmod_eq_of_le (by omega) (by omega)
theorem ib.sub {x y : Int64} {v u : Int} {b c : Nat} (h : ib x v b) (g : ib y u c) (hb : b + c < 2 ^ 63) : ib (x - y) (v - u) (b + c) := by
  obtain ⟨rfl, h2⟩ := h
  obtain ⟨rfl, g2⟩ := g
  refine ⟨?_, by omega⟩
  rw [Int64.toInt_sub]
  exact Int.bmod_eq_of_le (by omega) (by omega)
theorem ib.mul {x y : Int64} {v u : Int} {b c : Nat} (h : ib x v b) (g : ib y u c) (hb : b * c < 2 ^ 63) : ib (x * y) (v * u) (b * c) := by
  obtain ⟨rfl, h2⟩ := h
  obtain ⟨rfl, g2⟩ := g
  have h3 : (x.toInt * y.toInt).natAbs ≤ b * c := by rw [Int.natAbs_mul]; exact Nat.mul_le_mul h2 g2
  refine ⟨?_, h3⟩
  rw [Int64.toInt_mul]
  exact Int.bmod_eq_of_le (by omega) (by omega)
theorem ib.le {x : Int64} {v : Int} {b c : Nat} (h : ib x v b) (hb : b ≤ c) : ib x v c := ⟨h.1, Nat.le_trans h.2 hb⟩
theorem ib.of (x : Int64) {b : Nat} (h : x.toInt.natAbs ≤ b) : ib x x.toInt b := ⟨rfl, h⟩
theorem ib_c (x : Int64) (v : Int) (b : Nat) (h : x.toInt = v) (hb : v.natAbs ≤ b) : ib x v b := ⟨h, hb⟩
theorem l_shr (x : Int64) (c : Int64) (k : Nat) (hk : k < 64) (hc : c = Int64.ofNat k) : (x >>> c).toInt = x.toInt / 2 ^ k := by
  subst hc
  have h1 : (x >>> Int64.ofNat k).toBitVec = x.toBitVec.sshiftRight' ((Int64.ofNat k).toBitVec.smod 64) := rfl
  show (x >>> Int64.ofNat k).toBitVec.toInt = _
  rw [h1, BitVec.toInt_sshiftRight']
  have h2 : ∀ k : Fin 64, ((Int64.ofNat k.1).toBitVec.smod 64).toNat = k.1 := by decide
  rw [h2 ⟨k, hk⟩, Int.shiftRight_eq_div_pow]
  show x.toInt / _ = _
  rfl
theorem l_shl (x : Int64) (c : Int64) (k : Nat) (hk : k < 63) (hc : c = Int64.ofNat k) : (x <<< c).toInt = (x.toInt * 2 ^ k).bmod (2 ^ 64) := by
  subst hc
  have h1 : (x <<< Int64.ofNat k).toBitVec = x.toBitVec <<< ((Int64.ofNat k).toBitVec.smod 64) := rfl
  show (x <<< Int64.ofNat k).toBitVec.toInt = _
  have h2 : ∀ k : Fin 64, ((Int64.ofNat k.1).toBitVec.smod 64).toNat = k.1 := by decide
  rw [h1, show x.toBitVec <<< ((Int64.ofNat k).toBitVec.smod 64) = x.toBitVec <<< ((Int64.ofNat k).toBitVec.smod 64).toNat from rfl, h2 ⟨k, by omega⟩, BitVec.shiftLeft_eq_mul_twoPow, BitVec.toInt_mul]
  have h3 : ∀ k : Fin 63, (BitVec.twoPow 64 k.1).toInt = 2 ^ k.1 := by decide
  rw [h3 ⟨k, hk⟩]
  rfl
theorem ib.shr {x : Int64} {v : Int} {b : Nat} (h : ib x v b) (c : Int64) (k : Nat) (hk : k < 64) (hc : c = Int64.ofNat k) : ib (x >>> c) (v / 2 ^ k) (b / 2 ^ k + 1) := by
  obtain ⟨rfl, h2⟩ := h
  refine ⟨l_shr x c k hk hc, ?_⟩
  have hp : (0 : Int) < 2 ^ k := Int.pow_pos (by decide)
  have e : ((2 ^ k : Nat) : Int) = 2 ^ k := by simp
  have h3 : x.toInt ≤ b := by omega
  have h4 : -(b : Int) ≤ x.toInt := by omega
  have h5 : x.toInt / 2 ^ k ≤ (b : Int) / 2 ^ k := Int.ediv_le_ediv hp h3
  have h6 : -((b : Int) / 2 ^ k + 1) ≤ x.toInt / 2 ^ k := by
    apply (Int.le_ediv_iff_mul_le hp).mpr
    have h7 := Int.mul_ediv_add_emod (b : Int) (2 ^ k)
    have h8 := Int.emod_lt_of_pos (b : Int) hp
    have h9 : -((b : Int) / 2 ^ k + 1) * 2 ^ k = -(2 ^ k * ((b : Int) / 2 ^ k)) - 2 ^ k := by grind
    omega
  have h10 : ((b / 2 ^ k : Nat) : Int) = (b : Int) / 2 ^ k := by rw [Int.natCast_ediv, e]
  omega
theorem ib.shl {x : Int64} {v : Int} {b : Nat} (h : ib x v b) (c : Int64) (k : Nat) (hk : k < 63) (hc : c = Int64.ofNat k) (hb : b * 2 ^ k < 2 ^ 63) : ib (x <<< c) (v * 2 ^ k) (b * 2 ^ k) := by
  obtain ⟨rfl, h2⟩ := h
  have h3 : (x.toInt * 2 ^ k).natAbs ≤ b * 2 ^ k := by
    rw [Int.natAbs_mul, Int.natAbs_pow]
    exact Nat.mul_le_mul h2 (Nat.le_refl _)
  refine ⟨?_, h3⟩
  rw [l_shl x c k hk hc]
  exact Int.bmod_eq_of_le (by omega) (by omega)
theorem ib.sr {x : Int64} {v : Int} {b : Nat} (h : ib x v b) (c : Int64) (k : Nat) (d : Int) (b2 : Nat) (hk : k < 64) (hc : c = Int64.ofNat k) (hd : 2 ^ k = d) (hb : b / 2 ^ k + 1 ≤ b2) : ib (x >>> c) (v / d) b2 := by
  have := (h.shr c k hk hc).le hb
  rw [hd] at this
  exact this
theorem ib.sl {x : Int64} {v : Int} {b : Nat} (h : ib x v b) (c : Int64) (k : Nat) (d : Int) (b2 : Nat) (hk : k < 63) (hc : c = Int64.ofNat k) (hd : 2 ^ k = d) (hb : b * 2 ^ k < 2 ^ 63) (hb2 : b * 2 ^ k ≤ b2) : ib (x <<< c) (v * d) b2 := by
  have := (h.shl c k hk hc hb).le hb2
  rw [hd] at this
  exact this
/-- a sum by weights -/
def ws (w a : Nat → Int) : Nat → Int
  | 0 => 0
  | n + 1 => ws w a n + a n * w n
theorem ws_congr {w a b : Nat → Int} : ∀ {n : Nat}, (∀ i, i < n → a i = b i) → ws w a n = ws w b n
  | 0, _ => rfl
  | n + 1, h => by rw [ws, ws, ws_congr (fun i hi => h i (by omega)), h n (by omega)]
theorem ws_upd {w a b : Nat → Int} {k : Nat} {x : Int} : ∀ {n : Nat}, k < n → (∀ i, i < n → b i = if i = k then a i + x else a i) → ws w b n = ws w a n + x * w k
  | 0, h, _ => absurd h (by omega)
  | n + 1, h, hb => by
    rw [ws, ws]
    by_cases e : k = n
    · subst e
      rw [ws_congr (a := b) (b := a) (fun i hi => by rw [hb i (by omega), if_neg (by omega)]), hb k (by omega), if_pos rfl]
      grind
    · rw [ws_upd (w := w) (a := a) (b := b) (k := k) (x := x) (by omega) (fun i hi => hb i (by omega)), hb n (by omega), if_neg (by omega)]
      grind
/-- the longs of a cell as whole numbers -/
def lg (M : mm_M) (k i : Nat) : Int := (M.2 k i).toInt
