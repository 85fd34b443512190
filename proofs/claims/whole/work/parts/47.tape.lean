theorem g_in01 (v a b : Int32) : f_X12_in v a b = 0 ∨ f_X12_in v a b = 1 := by
  unfold f_X12_in
  split
  · left; rfl
  · split
    · left; rfl
    · right; rfl
theorem g_in {v b : Int32} (h : ¬ f_X12_in v 0 b = 0) : v = nI v.toNatClampNeg ∧ (v.toNatClampNeg : Int) ≤ b.toInt := by
  unfold f_X12_in at h
  by_cases h0 : v < 0
  · rw [if_pos h0] at h; exact absurd rfl h
  · rw [if_neg h0] at h
    by_cases h1 : b < v
    · rw [if_pos h1] at h; exact absurd rfl h
    · have hv : 0 ≤ v.toInt := by
        have := h0; rw [Int32.lt_iff_toInt_lt] at this; exact Int.not_lt.mp this
      have hb : v.toInt ≤ b.toInt := by
        have := h1; rw [Int32.lt_iff_toInt_lt] at this; exact Int.not_lt.mp this
      have hc : (v.toNatClampNeg : Int) = v.toInt := by
        show (v.toInt.toNat : Int) = v.toInt
        omega
      refine ⟨?_, by omega⟩
      apply Int32.toInt_inj.mp
      have := Int32.toInt_lt v
      rw [nI_toInt (by omega), hc]
theorem g_inN {v : Int32} {n : Nat} (hn : n < 2 ^ 31) (h : ¬ f_X12_in v 0 (nI n) = 0) : v = nI v.toNatClampNeg ∧ v.toNatClampNeg ≤ n := by
  obtain ⟨a, b⟩ := g_in h
  rw [nI_toInt hn] at b
  exact ⟨a, by omega⟩
theorem g_inL {v : Int32} {n : Nat} (hn : n < 2 ^ 31) (h : ¬ f_X12_in v 0 (nI n - 1) = 0) : v = nI v.toNatClampNeg ∧ v.toNatClampNeg < n := by
  obtain ⟨a, b⟩ := g_in h
  rcases Nat.eq_zero_or_pos n with h0 | h0
  · subst h0
    rw [show ((nI 0 - 1 : Int32)).toInt = -1 from rfl] at b
    omega
  · rw [show nI n - 1 = nI (n - 1) from mm_dn (by omega), nI_toInt (by omega)] at b
    exact ⟨a, by omega⟩
def f_X12_feedOne_L3 (v1 : Int32) (q : Nat) (σ : mm_M) : Nat → mm_M
  | 0 => σ
  | t + 1 =>
  let M_3 := f_X12_feedOne_L3 v1 q σ t
  let M_5 := mm_w M_3 118 (q + t) (mm_b ((v1) >>> ((nI (24 - 8 * t)) &&& 31)))
  let M_6 := mm_w M_5 117 4 (nI (q + t + 1))
  M_6
theorem w_f_X12_feedOne_L3 (v1 : Int32) (q : Nat) (σ : mm_M) : ∀ t : Nat, mm_fr [118, 117] σ (f_X12_feedOne_L3 v1 q σ t)
  | 0 => mm_fr_refl _ _
  | t + 1 => have ih := w_f_X12_feedOne_L3 v1 q σ t
    (mm_fr_w (by simp) (mm_fr_w (by simp) ih))
def f_X12_feedOne (v1 : Int32) (q : Nat) (M : mm_M) : mm_M :=
  let M_1 := f_X12_feedOne_L3 v1 q M 4
  M_1
theorem w_f_X12_feedOne (v1 : Int32) (q : Nat) (M : mm_M) : mm_fr [118, 117] M (f_X12_feedOne v1 q M) := by
  unfold f_X12_feedOne
  exact ((w_f_X12_feedOne_L3 _ _ _ 4).on (by simp) (mm_fr_refl _ _))
theorem i_X12_feedOne (v1 : Int32) (q : Nat) (σ : mm_M) (h : σ.1 117 4 = nI q) : ∀ t, (f_X12_feedOne_L3 v1 q σ t).1 117 4 = nI (q + t)
  | 0 => h
  | t + 1 => by
    unfold f_X12_feedOne_L3
    simp [mm_w]
    congr 1

set_option maxHeartbeats 4000000 in
set_option maxRecDepth 100000 in
theorem c_X12_feedOne (l : Launch) (D : va_G) (b0 : Nat) (r : Nat → Nat) (M : mm_M) (v1 : Int32) (q : Nat) (hq : q + 4 ≤ 1000) (h0 : M.1 117 4 = nI q) : mm_Mv l yX12_feedOne cX12_feedOne 3 0 0 D b0 r [.ref (r (117)), .int (v1)] M (fun M' => M' = f_X12_feedOne v1 q M) := by
  refine mm_enter (cc := cX12_feedOne) (nL := 3) (ret := none) (by decide) (Nat.le_of_ble_eq_true rfl) ?_
  intro p e s m args below meth c C w ls hl
  have hl : lv_has ls 3 [(0, .ref (r (117))), (1, .int (v1))] := hl
  refine lv_bipush (v := 24) C.1 C.2.1 dX12_feedOne_0 (by decide) ?_
  refine lv_istore_n (lv' := [(2, .int 24), (0, .ref (r (117))), (1, .int (v1))]) C.1 C.2.1 dX12_feedOne_2 rfl hl (by decide) rfl (fun ls hl => ?_)
  have loop : ∀ (k t : Nat), t + k = 4 → ∀ (H : Heap) (locs : List Loc) (ls : Array Slot), mm_W D b0 r (f_X12_feedOne_L3 v1 q M t) s H locs → lv_has ls 3 [(2, .int (nI (32 - 8 * t) - 8)), (0, .ref (r (117))), (1, .int (v1))] → W p l e (mm_rm 0 0) s m args below meth c H locs 0 0 (MQ below (va_Qv (fun M' => M' = f_X12_feedOne v1 q M) (mm_U D b0 r) (fun q => b0 ≤ q)) args s 0 0 (fun q => b0 ≤ q)) (F0 m 3 ls []) := by
    intro k
    induction k with
    | zero =>
      intro t ht H locs ls w hl
      obtain rfl : 4 = t := by omega
      obtain ⟨M_1, eM_1⟩ : ∃ zz, zz = f_X12_feedOne_L3 v1 q M 4 := ⟨_, rfl⟩
      rw [← eM_1] at w
      refine lv_iload_n C.1 C.2.1 dX12_feedOne_3 rfl (lv_at hl 0 rfl) ?_
      refine lv_if_lt (tgt := 36) C.1 C.2.1 dX12_feedOne_4 (by decide) (fun _ => ?_) (fun h_2 => absurd h_2 (fun q => q (mm_neg8 (by omega))))
      exact m_vret C w (by subst eM_1; exact Eq.symm (rfl)) dX12_feedOne_36
    | succ k ih =>
      intro t ht H locs ls w hl
      obtain ⟨M_3, eM_3⟩ : ∃ zz, zz = f_X12_feedOne_L3 v1 q M t := ⟨_, rfl⟩
      rw [← eM_3] at w
      rw [mm_dnd8 (n := 32 - 8 * t) (m := 24 - 8 * t) (by omega)] at hl
      refine lv_iload_n C.1 C.2.1 dX12_feedOne_3 rfl (lv_at hl 0 rfl) ?_
      refine lv_if_lt (tgt := 36) C.1 C.2.1 dX12_feedOne_4 (by decide) (fun h_4 => absurd h_4 (nI_pos (by omega))) (fun _ => ?_)
      skip
      refine lv_aload_n C.1 C.2.1 dX12_feedOne_7 rfl (lv_at hl 1 rfl) ?_
      refine m_get C w (k := 117) (j := 0) (v := .ref (r (118))) flX12_7 (by decide) rfl rfl dX12_feedOne_8 ?_
      refine lv_aload_n C.1 C.2.1 dX12_feedOne_11 rfl (lv_at hl 1 rfl) ?_
      refine m_get C w (k := 117) (j := 4) (v := .int (M_3.1 117 4)) flX12_364 (by decide) rfl rfl dX12_feedOne_12 ?_
      refine m_i (y := nI (q + t)) (by rw [eM_3]; exact i_X12_feedOne _ _ _ h0 _) ?_
      refine lv_iload_n C.1 C.2.1 dX12_feedOne_15 rfl (lv_at hl 2 rfl) ?_
      refine lv_iload_n C.1 C.2.1 dX12_feedOne_16 rfl (lv_at hl 0 rfl) ?_
      refine lv_ishr C.1 C.2.1 dX12_feedOne_17 ?_
      refine lv_i2b (v := mm_b ((v1) >>> ((nI (24 - 8 * t)) &&& 31))) C.1 C.2.1 dX12_feedOne_18 rfl ?_
      refine m_bast C w (k := 118) (i := q + t) (n := 1000) (x := (mm_b ((v1) >>> ((nI (24 - 8 * t)) &&& 31)))) (by decide) rfl (by omega) (by decide) (mm_bb _) dX12_feedOne_19 (fun H locs w => ?_)
      obtain ⟨M_5, eM_5⟩ : ∃ zz, zz = mm_w M_3 118 (q + t) (mm_b ((v1) >>> ((nI (24 - 8 * t)) &&& 31))) := ⟨_, rfl⟩
      rw [← eM_5] at w
      refine lv_aload_n C.1 C.2.1 dX12_feedOne_20 rfl (lv_at hl 1 rfl) ?_
      refine lv_dup C.1 C.2.1 dX12_feedOne_21 rfl ?_
      refine m_get C w (k := 117) (j := 4) (v := .int (M_5.1 117 4)) flX12_364 (by decide) rfl rfl dX12_feedOne_22 ?_
      refine m_i (y := nI (q + t)) (by rw [eM_5]; simp [mm_w]; rw [eM_3]; exact i_X12_feedOne _ _ _ h0 _) ?_
      refine lv_iconst (v := 1) C.1 C.2.1 dX12_feedOne_25 (by decide) ?_
      refine lv_iadd C.1 C.2.1 dX12_feedOne_26 ?_
      refine m_i (y := nI (q + t + 1)) (nI_add (q + t) 1) ?_
      refine m_puti C w (k := 117) (j := 4) (x := (nI (q + t + 1))) rfl flX12_364w (by decide) rfl rfl dX12_feedOne_27 (fun H locs w => ?_)
      obtain ⟨M_6, eM_6⟩ : ∃ zz, zz = mm_w M_5 117 4 (nI (q + t + 1)) := ⟨_, rfl⟩
      rw [← eM_6] at w
      refine lv_iinc (v := (nI (32 - 8 * (t + 1)) - 8)) (lv' := [(2, .int (nI (32 - 8 * (t + 1)) - 8)), (0, .ref (r (117))), (1, .int (v1))]) C.1 C.2.1 dX12_feedOne_30 hl (k := 0) rfl (mm_dnd8b (by omega)) (by decide) rfl (fun ls hl => ?_)
      refine lv_goto (tgt := 3) C.1 C.2.1 dX12_feedOne_33 (by decide) ?_
      have h9 : lv_has ls 3 [(2, .int (nI (32 - 8 * (t + 1)) - 8)), (0, .ref (r (117))), (1, .int (v1))] := lv_sub hl [0, 1, 2] rfl
      have hlZ : lv_has ls 3 [(2, .int (nI (32 - 8 * (t + 1)) - 8)), (0, .ref (r (117))), (1, .int (v1))] := h9
      have wZ := w
      subst eM_3 eM_5 eM_6
      refine ih (t + 1) (by omega) _ _ _ (wZ) ?_
      exact hlZ
  exact loop 4 0 (by omega) _ _ ls w (by have h9 := hl; first | exact h9 | simpa using h9)

theorem r_X12_feedOne (v1 : Int32) (q : Nat) (M : mm_M) (h0 : M.1 117 4 = nI q) : (f_X12_feedOne v1 q M).1 117 4 = nI (q + 4) := i_X12_feedOne v1 q M h0 4

def f_X12_feed (v1 : Int32) (v2 : Int32) (v3 : Int32) (v4 : Int32) (v5 : Int32) (ts : Nat) (M : mm_M) : Int32 × mm_M :=
  if ts + 20 ≤ 1000 then (let M_2 := f_X12_feedOne (v1) ts M
  let M_3 := f_X12_feedOne (v2) (ts + 4) M_2
  let M_4 := f_X12_feedOne (v3) (ts + 8) M_3
  let M_5 := f_X12_feedOne (v4) (ts + 12) M_4
  let M_6 := f_X12_feedOne (v5) (ts + 16) M_5
  ((M_6.1 117 4), M_6)) else (((-1 : Int32), M))
theorem w_f_X12_feed (v1 : Int32) (v2 : Int32) (v3 : Int32) (v4 : Int32) (v5 : Int32) (ts : Nat) (M : mm_M) : mm_fr2 [118, 117] M (f_X12_feed v1 v2 v3 v4 v5 ts M) := by
  unfold f_X12_feed
  exact (mm_fr_ite2 (fun _ => ((w_f_X12_feedOne _ _ _).on (by simp) ((w_f_X12_feedOne _ _ _).on (by simp) ((w_f_X12_feedOne _ _ _).on (by simp) ((w_f_X12_feedOne _ _ _).on (by simp) ((w_f_X12_feedOne _ _ _).on (by simp) (mm_fr_refl _ _)))))).b) (fun _ => (mm_fr_refl _ _).b))
set_option maxHeartbeats 4000000 in
set_option maxRecDepth 100000 in
theorem c_X12_feed (l : Launch) (D : va_G) (b0 : Nat) (r : Nat → Nat) (M : mm_M) (v1 : Int32) (v2 : Int32) (v3 : Int32) (v4 : Int32) (v5 : Int32) (ts : Nat) (hts : ts ≤ 1000) (h1 : M.1 117 4 = nI ts) : mm_Mi l yX12_feed cX12_feed 6 .int 1 22 D b0 r [.ref (r (117)), .int (v1), .int (v2), .int (v3), .int (v4), .int (v5)] M (fun v M' => (v, M') = f_X12_feed v1 v2 v3 v4 v5 ts M) := by
  refine mm_enter (cc := cX12_feed) (nL := 6) (ret := (some .int)) (by decide) (Nat.le_of_ble_eq_true rfl) ?_
  intro p e s m args below meth c C w ls hl
  have hl : lv_has ls 6 [(0, .ref (r (117))), (1, .int (v1)), (2, .int (v2)), (3, .int (v3)), (4, .int (v4)), (5, .int (v5))] := hl
  refine lv_aload_n C.1 C.2.1 dX12_feed_0 rfl (lv_at hl 0 rfl) ?_
  refine m_get C w (k := 117) (j := 4) (v := .int (M.1 117 4)) flX12_364 (by decide) rfl rfl dX12_feed_1 ?_
  refine m_i (y := nI (ts)) h1 ?_
  refine lv_bipush (v := 20) C.1 C.2.1 dX12_feed_4 (by decide) ?_
  refine lv_iadd C.1 C.2.1 dX12_feed_6 ?_
  refine m_i (y := nI (ts + 20)) (nI_add ts 20) ?_
  refine lv_sipush (v := 1000) C.1 C.2.1 dX12_feed_7 (by decide) ?_
  refine m_icmp_le (tgt := 15) (a := ts + 20) (b := 1000) C (by omega) (by omega) dX12_feed_10 (by decide) (fun h_1 => ?_) (fun h_1 => ?_)
  · refine lv_aload_n C.1 C.2.1 dX12_feed_15 rfl (lv_at hl 0 rfl) ?_
    refine lv_iload_n C.1 C.2.1 dX12_feed_16 rfl (lv_at hl 1 rfl) ?_
    refine m_cvv C w hl cvX12_367 (k := 117) (by decide) rfl (q := (RX12, TX12, 58)) rfl rfl (As := [.int (v1)]) (rest := []) (c_X12_feedOne l D b0 r M (v1) ts (by omega) h1) rfl rfl (Nat.le_of_ble_eq_true rfl) ⟨Nat.le_of_ble_eq_true rfl, Nat.le_of_ble_eq_true rfl⟩ ⟨Nat.zero_le _, Nat.zero_le _⟩ dX12_feed_17 (fun M_2 H locs eM_2 w => ?_)
    refine lv_aload_n C.1 C.2.1 dX12_feed_20 rfl (lv_at hl 0 rfl) ?_
    refine lv_iload_n C.1 C.2.1 dX12_feed_21 rfl (lv_at hl 2 rfl) ?_
    refine m_cvv C w hl cvX12_367 (k := 117) (by decide) rfl (q := (RX12, TX12, 58)) rfl rfl (As := [.int (v2)]) (rest := []) (c_X12_feedOne l D b0 r M_2 (v2) (ts + 4) (by omega) (by rw [eM_2]; exact r_X12_feedOne _ _ _ h1)) rfl rfl (Nat.le_of_ble_eq_true rfl) ⟨Nat.le_of_ble_eq_true rfl, Nat.le_of_ble_eq_true rfl⟩ ⟨Nat.zero_le _, Nat.zero_le _⟩ dX12_feed_22 (fun M_3 H locs eM_3 w => ?_)
    refine lv_aload_n C.1 C.2.1 dX12_feed_25 rfl (lv_at hl 0 rfl) ?_
    refine lv_iload_n C.1 C.2.1 dX12_feed_26 rfl (lv_at hl 3 rfl) ?_
    refine m_cvv C w hl cvX12_367 (k := 117) (by decide) rfl (q := (RX12, TX12, 58)) rfl rfl (As := [.int (v3)]) (rest := []) (c_X12_feedOne l D b0 r M_3 (v3) (ts + 8) (by omega) (by rw [eM_3]; exact r_X12_feedOne _ _ _ (by rw [eM_2]; exact r_X12_feedOne _ _ _ h1))) rfl rfl (Nat.le_of_ble_eq_true rfl) ⟨Nat.le_of_ble_eq_true rfl, Nat.le_of_ble_eq_true rfl⟩ ⟨Nat.zero_le _, Nat.zero_le _⟩ dX12_feed_27 (fun M_4 H locs eM_4 w => ?_)
    refine lv_aload_n C.1 C.2.1 dX12_feed_30 rfl (lv_at hl 0 rfl) ?_
    refine lv_iload C.1 C.2.1 dX12_feed_31 (lv_at hl 4 rfl) ?_
    refine m_cvv C w hl cvX12_367 (k := 117) (by decide) rfl (q := (RX12, TX12, 58)) rfl rfl (As := [.int (v4)]) (rest := []) (c_X12_feedOne l D b0 r M_4 (v4) (ts + 12) (by omega) (by rw [eM_4]; exact r_X12_feedOne _ _ _ (by rw [eM_3]; exact r_X12_feedOne _ _ _ (by rw [eM_2]; exact r_X12_feedOne _ _ _ h1)))) rfl rfl (Nat.le_of_ble_eq_true rfl) ⟨Nat.le_of_ble_eq_true rfl, Nat.le_of_ble_eq_true rfl⟩ ⟨Nat.zero_le _, Nat.zero_le _⟩ dX12_feed_33 (fun M_5 H locs eM_5 w => ?_)
    refine lv_aload_n C.1 C.2.1 dX12_feed_36 rfl (lv_at hl 0 rfl) ?_
    refine lv_iload C.1 C.2.1 dX12_feed_37 (lv_at hl 5 rfl) ?_
    refine m_cvv C w hl cvX12_367 (k := 117) (by decide) rfl (q := (RX12, TX12, 58)) rfl rfl (As := [.int (v5)]) (rest := []) (c_X12_feedOne l D b0 r M_5 (v5) (ts + 16) (by omega) (by rw [eM_5]; exact r_X12_feedOne _ _ _ (by rw [eM_4]; exact r_X12_feedOne _ _ _ (by rw [eM_3]; exact r_X12_feedOne _ _ _ (by rw [eM_2]; exact r_X12_feedOne _ _ _ h1))))) rfl rfl (Nat.le_of_ble_eq_true rfl) ⟨Nat.le_of_ble_eq_true rfl, Nat.le_of_ble_eq_true rfl⟩ ⟨Nat.zero_le _, Nat.zero_le _⟩ dX12_feed_39 (fun M_6 H locs eM_6 w => ?_)
    refine lv_aload_n C.1 C.2.1 dX12_feed_42 rfl (lv_at hl 0 rfl) ?_
    refine m_get C w (k := 117) (j := 4) (v := .int (M_6.1 117 4)) flX12_364 (by decide) rfl rfl dX12_feed_43 ?_
    exact m_iret C w (by subst eM_2 eM_3 eM_4 eM_5 eM_6; exact Eq.symm (((if_pos h_1).trans rfl))) dX12_feed_46
  · refine lv_iconst (v := (-1)) C.1 C.2.1 dX12_feed_13 (by decide) ?_
    exact m_iret C w (by exact Eq.symm (((if_neg (Nat.not_le.mpr h_1)).trans rfl))) dX12_feed_14

def f_X12_turn (rs : Nat) (M : mm_M) : Int32 × mm_M :=
  let M_1 := f_X12_copy 121 0 118 0 rs M
  let M_2 := mm_w M_1 117 4 (nI (rs))
  ((M_2.1 117 4), M_2)
theorem w_f_X12_turn (rs : Nat) (M : mm_M) : mm_fr2 [118, 117] M (f_X12_turn rs M) := by
  unfold f_X12_turn
  exact (mm_fr_w (by simp) ((w_f_X12_copy _ _ _ _ _ _).on (by simp) (mm_fr_refl _ _))).b
set_option maxHeartbeats 4000000 in
set_option maxRecDepth 100000 in
theorem c_X12_turn (l : Launch) (D : va_G) (b0 : Nat) (r : Nat → Nat) (M : mm_M) (rs : Nat) (hrs : rs ≤ 1000) (h3 : M.1 117 5 = nI rs) : mm_Mi l yX12_turn cX12_turn 1 .int 1 25 D b0 r [.ref (r (117))] M (fun v M' => (v, M') = f_X12_turn rs M) := by
  refine mm_enter (cc := cX12_turn) (nL := 1) (ret := (some .int)) (by decide) (Nat.le_of_ble_eq_true rfl) ?_
  intro p e s m args below meth c C w ls hl
  have hl : lv_has ls 1 [(0, .ref (r (117)))] := hl
  refine lv_aload_n C.1 C.2.1 dX12_turn_0 rfl (lv_at hl 0 rfl) ?_
  refine m_get C w (k := 117) (j := 3) (v := .ref (r (121))) flX12_19 (by decide) rfl rfl dX12_turn_1 ?_
  refine lv_iconst (v := 0) C.1 C.2.1 dX12_turn_4 (by decide) ?_
  refine lv_aload_n C.1 C.2.1 dX12_turn_5 rfl (lv_at hl 0 rfl) ?_
  refine m_get C w (k := 117) (j := 0) (v := .ref (r (118))) flX12_7 (by decide) rfl rfl dX12_turn_6 ?_
  refine lv_iconst (v := 0) C.1 C.2.1 dX12_turn_9 (by decide) ?_
  refine lv_aload_n C.1 C.2.1 dX12_turn_10 rfl (lv_at hl 0 rfl) ?_
  refine m_get C w (k := 117) (j := 5) (v := .int (M.1 117 5)) flX12_370 (by decide) rfl rfl dX12_turn_11 ?_
  refine m_i (y := nI (rs)) h3 ?_
  refine m_csv C w hl csX12_265 (As := [.ref (r (121)), .int 0, .ref (r (118)), .int 0, .int (nI (rs))]) (rest := []) (c_X12_copy l D b0 r M 121 0 118 0 rs (by decide) rfl (by decide) (by omega) (by decide) rfl (by decide) (by omega) (by omega) (by omega)) rfl rfl (Nat.le_of_ble_eq_true rfl) ⟨Nat.le_of_ble_eq_true rfl, Nat.le_of_ble_eq_true rfl⟩ ⟨Nat.zero_le _, Nat.zero_le _⟩ dX12_turn_14 (fun M_1 H locs eM_1 w => ?_)
  refine lv_aload_n C.1 C.2.1 dX12_turn_17 rfl (lv_at hl 0 rfl) ?_
  refine lv_aload_n C.1 C.2.1 dX12_turn_18 rfl (lv_at hl 0 rfl) ?_
  refine m_get C w (k := 117) (j := 5) (v := .int (M_1.1 117 5)) flX12_370 (by decide) rfl rfl dX12_turn_19 ?_
  refine m_i (y := nI (rs)) (by have hf : mm_fr [118] M M_1 := (by subst eM_1; exact ((w_f_X12_copy _ _ _ _ _ _).on (by simp) (mm_fr_refl _ _))); rw [(hf 117 (by simp)).1]; exact h3) ?_
  refine m_puti C w (k := 117) (j := 4) (x := (nI (rs))) rfl flX12_364w (by decide) rfl rfl dX12_turn_22 (fun H locs w => ?_)
  obtain ⟨M_2, eM_2⟩ : ∃ zz, zz = mm_w M_1 117 4 (nI (rs)) := ⟨_, rfl⟩
  rw [← eM_2] at w
  refine lv_aload_n C.1 C.2.1 dX12_turn_25 rfl (lv_at hl 0 rfl) ?_
  refine m_get C w (k := 117) (j := 4) (v := .int (M_2.1 117 4)) flX12_364 (by decide) rfl rfl dX12_turn_26 ?_
  exact m_iret C w (by subst eM_1 eM_2; exact Eq.symm (rfl)) dX12_turn_29

def f_X12_takes (ts : Nat) (M : mm_M) : mm_M :=
  let M_1 := f_X12_copy 118 0 119 0 ts M
  let M_2 := mm_w M_1 117 4 (0 : Int32)
  M_2
theorem w_f_X12_takes (ts : Nat) (M : mm_M) : mm_fr [119, 117] M (f_X12_takes ts M) := by
  unfold f_X12_takes
  exact (mm_fr_w (by simp) ((w_f_X12_copy _ _ _ _ _ _).on (by simp) (mm_fr_refl _ _)))
set_option maxHeartbeats 4000000 in
set_option maxRecDepth 100000 in
theorem c_X12_takes (l : Launch) (D : va_G) (b0 : Nat) (r : Nat → Nat) (M : mm_M) (ts : Nat) (hts : ts ≤ 1000) (h1 : M.1 117 4 = nI ts) : mm_Mv l yX12_takes cX12_takes 1 1 25 D b0 r [.ref (r (117))] M (fun M' => M' = f_X12_takes ts M) := by
  refine mm_enter (cc := cX12_takes) (nL := 1) (ret := none) (by decide) (Nat.le_of_ble_eq_true rfl) ?_
  intro p e s m args below meth c C w ls hl
  have hl : lv_has ls 1 [(0, .ref (r (117)))] := hl
  refine lv_aload_n C.1 C.2.1 dX12_takes_0 rfl (lv_at hl 0 rfl) ?_
  refine m_get C w (k := 117) (j := 0) (v := .ref (r (118))) flX12_7 (by decide) rfl rfl dX12_takes_1 ?_
  refine lv_iconst (v := 0) C.1 C.2.1 dX12_takes_4 (by decide) ?_
  refine lv_aload_n C.1 C.2.1 dX12_takes_5 rfl (lv_at hl 0 rfl) ?_
  refine m_get C w (k := 117) (j := 1) (v := .ref (r (119))) flX12_13 (by decide) rfl rfl dX12_takes_6 ?_
  refine lv_iconst (v := 0) C.1 C.2.1 dX12_takes_9 (by decide) ?_
  refine lv_aload_n C.1 C.2.1 dX12_takes_10 rfl (lv_at hl 0 rfl) ?_
  refine m_get C w (k := 117) (j := 4) (v := .int (M.1 117 4)) flX12_364 (by decide) rfl rfl dX12_takes_11 ?_
  refine m_i (y := nI (ts)) h1 ?_
  refine m_csv C w hl csX12_265 (As := [.ref (r (118)), .int 0, .ref (r (119)), .int 0, .int (nI (ts))]) (rest := []) (c_X12_copy l D b0 r M 118 0 119 0 ts (by decide) rfl (by decide) (by omega) (by decide) rfl (by decide) (by omega) (by omega) (by omega)) rfl rfl (Nat.le_of_ble_eq_true rfl) ⟨Nat.le_of_ble_eq_true rfl, Nat.le_of_ble_eq_true rfl⟩ ⟨Nat.zero_le _, Nat.zero_le _⟩ dX12_takes_14 (fun M_1 H locs eM_1 w => ?_)
  refine lv_aload_n C.1 C.2.1 dX12_takes_17 rfl (lv_at hl 0 rfl) ?_
  refine lv_iconst (v := 0) C.1 C.2.1 dX12_takes_18 (by decide) ?_
  refine m_puti C w (k := 117) (j := 4) (x := (0 : Int32)) rfl flX12_364w (by decide) rfl rfl dX12_takes_19 (fun H locs w => ?_)
  obtain ⟨M_2, eM_2⟩ : ∃ zz, zz = mm_w M_1 117 4 (0 : Int32) := ⟨_, rfl⟩
  rw [← eM_2] at w
  exact m_vret C w (by subst eM_1 eM_2; exact Eq.symm (rfl)) dX12_takes_22

def f_X12_tells (k1 : Nat) (p1 : Nat) (M : mm_M) : Int32 × mm_M :=
  let M_1 := f_X12_copy k1 0 121 0 p1 M
  let M_2 := mm_w M_1 117 5 (nI (p1))
  ((nI (p1)), M_2)
theorem w_f_X12_tells (k1 : Nat) (p1 : Nat) (M : mm_M) : mm_fr2 [121, 117] M (f_X12_tells k1 p1 M) := by
  unfold f_X12_tells
  exact (mm_fr_w (by simp) ((w_f_X12_copy _ _ _ _ _ _).on (by simp) (mm_fr_refl _ _))).b
set_option maxHeartbeats 4000000 in
set_option maxRecDepth 100000 in
theorem c_X12_tells (l : Launch) (D : va_G) (b0 : Nat) (r : Nat → Nat) (M : mm_M) (k1 : Nat) (p1 : Nat) {n1 : Nat} {w1 : Bool} (hk1 : k1 < 181) (hs1 : mm_sh k1 = .inl (.byte, n1, w1)) (hn1 : n1 < 2 ^ 31) (hp1 : p1 ≤ n1) (hq1 : n1 < 2 ^ 30) (hp2 : p1 ≤ 1000) : mm_Mi l yX12_tells cX12_tells 3 .int 1 25 D b0 r [.ref (r (117)), .ref (r (k1)), .int (nI (p1))] M (fun v M' => (v, M') = f_X12_tells k1 p1 M) := by
  refine mm_enter (cc := cX12_tells) (nL := 3) (ret := (some .int)) (by decide) (Nat.le_of_ble_eq_true rfl) ?_
  intro p e s m args below meth c C w ls hl
  have hl : lv_has ls 3 [(0, .ref (r (117))), (1, .ref (r (k1))), (2, .int (nI (p1)))] := hl
  refine lv_aload_n C.1 C.2.1 dX12_tells_0 rfl (lv_at hl 1 rfl) ?_
  refine lv_iconst (v := 0) C.1 C.2.1 dX12_tells_1 (by decide) ?_
  refine lv_aload_n C.1 C.2.1 dX12_tells_2 rfl (lv_at hl 0 rfl) ?_
  refine m_get C w (k := 117) (j := 3) (v := .ref (r (121))) flX12_19 (by decide) rfl rfl dX12_tells_3 ?_
  refine lv_iconst (v := 0) C.1 C.2.1 dX12_tells_6 (by decide) ?_
  refine lv_iload_n C.1 C.2.1 dX12_tells_7 rfl (lv_at hl 2 rfl) ?_
  refine m_csv C w hl csX12_265 (As := [.ref (r (k1)), .int 0, .ref (r (121)), .int 0, .int (nI (p1))]) (rest := []) (c_X12_copy l D b0 r M k1 0 121 0 p1 hk1 hs1 hn1 (by omega) (by decide) rfl (by decide) (by omega) (by omega) (by omega)) rfl rfl (Nat.le_of_ble_eq_true rfl) ⟨Nat.le_of_ble_eq_true rfl, Nat.le_of_ble_eq_true rfl⟩ ⟨Nat.zero_le _, Nat.zero_le _⟩ dX12_tells_8 (fun M_1 H locs eM_1 w => ?_)
  refine lv_aload_n C.1 C.2.1 dX12_tells_11 rfl (lv_at hl 0 rfl) ?_
  refine lv_iload_n C.1 C.2.1 dX12_tells_12 rfl (lv_at hl 2 rfl) ?_
  refine m_puti C w (k := 117) (j := 5) (x := (nI (p1))) rfl flX12_370w (by decide) rfl rfl dX12_tells_13 (fun H locs w => ?_)
  obtain ⟨M_2, eM_2⟩ : ∃ zz, zz = mm_w M_1 117 5 (nI (p1)) := ⟨_, rfl⟩
  rw [← eM_2] at w
  refine lv_iload_n C.1 C.2.1 dX12_tells_16 rfl (lv_at hl 2 rfl) ?_
  exact m_iret C w (by subst eM_1 eM_2; exact Eq.symm (rfl)) dX12_tells_17

def f_X12_isKey (v1 : Int32) : Int32 :=
  (f_X12_in (v1) (0 : Int32) (7 : Int32))
set_option maxHeartbeats 4000000 in
set_option maxRecDepth 100000 in
theorem c_X12_isKey (l : Launch) (D : va_G) (b0 : Nat) (r : Nat → Nat) (M : mm_M) (v1 : Int32)  : mm_Mi l yX12_isKey cX12_isKey 1 .boolean 1 22 D b0 r [.int (v1)] M (fun v M' => v = f_X12_isKey v1 ∧ M' = M) := by
  refine mm_enter (cc := cX12_isKey) (nL := 1) (ret := (some .boolean)) (by decide) (Nat.le_of_ble_eq_true rfl) ?_
  intro p e s m args below meth c C w ls hl
  have hl : lv_has ls 1 [(0, .int (v1))] := hl
  refine lv_iload_n C.1 C.2.1 dX12_isKey_0 rfl (lv_at hl 0 rfl) ?_
  refine lv_iconst (v := 0) C.1 C.2.1 dX12_isKey_1 (by decide) ?_
  refine lv_bipush (v := 7) C.1 C.2.1 dX12_isKey_2 (by decide) ?_
  refine m_csi C w hl csX12_373 (As := [.int (v1), .int 0, .int 7]) (rest := []) (c_X12_in l D b0 r M (v1) (0 : Int32) (7 : Int32) ) rfl rfl (Nat.le_of_ble_eq_true rfl) ⟨Nat.le_of_ble_eq_true rfl, Nat.le_of_ble_eq_true rfl⟩ ⟨Nat.zero_le _, Nat.zero_le _⟩ dX12_isKey_4 (fun v_1 M9 H locs e9 w => ?_)
  obtain ⟨ev_1, e9⟩ := e9
  rw [e9] at w
  subst ev_1
  exact m_zret C w (g_in01 _ _ _) ⟨by exact Eq.symm (rfl), rfl⟩ dX12_isKey_7
