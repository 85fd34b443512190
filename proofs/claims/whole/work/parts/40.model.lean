def f_X12_in (v1 : Int32) (v2 : Int32) (v3 : Int32) : Int32 :=
  if (v1) < (v2) then ((0 : Int32)) else (if (v3) < (v1) then ((0 : Int32)) else ((1 : Int32)))
set_option maxHeartbeats 4000000 in
set_option maxRecDepth 100000 in
theorem c_X12_in (l : Launch) (D : va_G) (b0 : Nat) (r : Nat → Nat) (M : mm_M) (v1 : Int32) (v2 : Int32) (v3 : Int32)  : mm_Mi l yX12_in cX12_in 3 .boolean 0 0 D b0 r [.int (v1), .int (v2), .int (v3)] M (fun v M' => v = f_X12_in v1 v2 v3 ∧ M' = M) := by
  refine mm_enter (cc := cX12_in) (nL := 3) (ret := (some .boolean)) (by decide) (Nat.le_of_ble_eq_true rfl) ?_
  intro p e s m args below meth c C w ls hl
  have hl : lv_has ls 3 [(0, .int (v1)), (1, .int (v2)), (2, .int (v3))] := hl
  refine lv_iload_n C.1 C.2.1 dX12_in_0 rfl (lv_at hl 0 rfl) ?_
  refine lv_iload_n C.1 C.2.1 dX12_in_1 rfl (lv_at hl 1 rfl) ?_
  refine lv_icmp_lt (tgt := 14) C.1 C.2.1 dX12_in_2 (by decide) (fun h_1 => ?_) (fun h_1 => ?_)
  · refine lv_iconst (v := 0) C.1 C.2.1 dX12_in_14 (by decide) ?_
    exact m_zret C w (by decide) ⟨by exact Eq.symm (((if_pos h_1).trans rfl)), rfl⟩ dX12_in_15
  · refine lv_iload_n C.1 C.2.1 dX12_in_5 rfl (lv_at hl 0 rfl) ?_
    refine lv_iload_n C.1 C.2.1 dX12_in_6 rfl (lv_at hl 2 rfl) ?_
    refine lv_icmp_gt (tgt := 14) C.1 C.2.1 dX12_in_7 (by decide) (fun h_2 => ?_) (fun h_2 => ?_)
    · refine lv_iconst (v := 0) C.1 C.2.1 dX12_in_14 (by decide) ?_
      exact m_zret C w (by decide) ⟨by exact Eq.symm (((if_neg h_1).trans ((if_pos h_2).trans rfl))), rfl⟩ dX12_in_15
    · refine lv_iconst (v := 1) C.1 C.2.1 dX12_in_10 (by decide) ?_
      refine lv_goto (tgt := 15) C.1 C.2.1 dX12_in_11 (by decide) ?_
      exact m_zret C w (by decide) ⟨by exact Eq.symm (((if_neg h_1).trans ((if_neg h_2).trans rfl))), rfl⟩ dX12_in_15

def f_X12_copy_L3 (k1 : Nat) (p1 : Nat) (k2 : Nat) (p2 : Nat) (σ : mm_M) : Nat → mm_M
  | 0 => σ
  | t + 1 =>
  let M_3 := f_X12_copy_L3 k1 p1 k2 p2 σ t
  let M_6 := mm_w M_3 k2 (p2 + t) (M_3.1 k1 (p1 + t))
  M_6
theorem w_f_X12_copy_L3 (k1 : Nat) (p1 : Nat) (k2 : Nat) (p2 : Nat) (σ : mm_M) : ∀ t : Nat, mm_fr [k2] σ (f_X12_copy_L3 k1 p1 k2 p2 σ t)
  | 0 => mm_fr_refl _ _
  | t + 1 => have ih := w_f_X12_copy_L3 k1 p1 k2 p2 σ t
    (mm_fr_w (by simp) ih)
def f_X12_copy (k1 : Nat) (p1 : Nat) (k2 : Nat) (p2 : Nat) (p3 : Nat) (M : mm_M) : mm_M :=
  let M_1 := f_X12_copy_L3 k1 p1 k2 p2 M p3
  M_1
theorem w_f_X12_copy (k1 : Nat) (p1 : Nat) (k2 : Nat) (p2 : Nat) (p3 : Nat) (M : mm_M) : mm_fr [k2] M (f_X12_copy k1 p1 k2 p2 p3 M) := by
  unfold f_X12_copy
  exact ((w_f_X12_copy_L3 _ _ _ _ _ p3).on (by simp) (mm_fr_refl _ _))
set_option maxHeartbeats 4000000 in
set_option maxRecDepth 100000 in
theorem c_X12_copy (l : Launch) (D : va_G) (b0 : Nat) (r : Nat → Nat) (M : mm_M) (k1 : Nat) (p1 : Nat) (k2 : Nat) (p2 : Nat) (p3 : Nat) {n1 : Nat} {w1 : Bool} (hk1 : k1 < 181) (hs1 : mm_sh k1 = .inl (.byte, n1, w1)) (hn1 : n1 < 2 ^ 31) (hp1 : p1 + p3 ≤ n1) {n2 : Nat} (hk2 : k2 < 173) (hs2 : mm_sh k2 = .inl (.byte, n2, true)) (hn2 : n2 < 2 ^ 31) (hp2 : p2 + p3 ≤ n2) (hp3 : n1 < 2 ^ 30) (hp4 : n2 < 2 ^ 30) : mm_Mv l yX12_copy cX12_copy 6 0 0 D b0 r [.ref (r (k1)), .int (nI (p1)), .ref (r (k2)), .int (nI (p2)), .int (nI (p3))] M (fun M' => M' = f_X12_copy k1 p1 k2 p2 p3 M) := by
  refine mm_enter (cc := cX12_copy) (nL := 6) (ret := none) (by decide) (Nat.le_of_ble_eq_true rfl) ?_
  intro p e s m args below meth c C w ls hl
  have hl : lv_has ls 6 [(0, .ref (r (k1))), (1, .int (nI (p1))), (2, .ref (r (k2))), (3, .int (nI (p2))), (4, .int (nI (p3)))] := hl
  refine lv_iconst (v := 0) C.1 C.2.1 dX12_copy_0 (by decide) ?_
  refine lv_istore (lv' := [(5, .int 0), (0, .ref (r (k1))), (1, .int (nI (p1))), (2, .ref (r (k2))), (3, .int (nI (p2))), (4, .int (nI (p3)))]) C.1 C.2.1 dX12_copy_1 hl (by decide) rfl (fun ls hl => ?_)
  have loop : ∀ (k t : Nat), t + k = p3 → ∀ (H : Heap) (locs : List Loc) (ls : Array Slot), mm_W D b0 r (f_X12_copy_L3 k1 p1 k2 p2 M t) s H locs → lv_has ls 6 [(5, .int (nI (t))), (0, .ref (r (k1))), (1, .int (nI (p1))), (2, .ref (r (k2))), (3, .int (nI (p2))), (4, .int (nI (p3)))] → W p l e (mm_rm 0 0) s m args below meth c H locs 0 0 (MQ below (va_Qv (fun M' => M' = f_X12_copy k1 p1 k2 p2 p3 M) (mm_U D b0 r) (fun q => b0 ≤ q)) args s 0 0 (fun q => b0 ≤ q)) (F0 m 3 ls []) := by
    intro k
    induction k with
    | zero =>
      intro t ht H locs ls w hl
      obtain rfl : p3 = t := by omega
      obtain ⟨M_1, eM_1⟩ : ∃ zz, zz = f_X12_copy_L3 k1 p1 k2 p2 M p3 := ⟨_, rfl⟩
      rw [← eM_1] at w
      refine lv_iload C.1 C.2.1 dX12_copy_3 (lv_at hl 0 rfl) ?_
      refine lv_iload C.1 C.2.1 dX12_copy_5 (lv_at hl 5 rfl) ?_
      refine m_icmp_ge (tgt := 28) (a := p3) (b := p3) C (by omega) (by omega) dX12_copy_7 (by decide) (fun _ => ?_) (fun h_2 => absurd h_2 (by omega))
      exact m_vret C w (by subst eM_1; exact Eq.symm (rfl)) dX12_copy_28
    | succ k ih =>
      intro t ht H locs ls w hl
      obtain ⟨M_3, eM_3⟩ : ∃ zz, zz = f_X12_copy_L3 k1 p1 k2 p2 M t := ⟨_, rfl⟩
      rw [← eM_3] at w
      refine lv_iload C.1 C.2.1 dX12_copy_3 (lv_at hl 0 rfl) ?_
      refine lv_iload C.1 C.2.1 dX12_copy_5 (lv_at hl 5 rfl) ?_
      refine m_icmp_ge (tgt := 28) (a := t) (b := p3) C (by omega) (by omega) dX12_copy_7 (by decide) (fun h_4 => absurd h_4 (by omega)) (fun _ => ?_)
      refine lv_aload_n C.1 C.2.1 dX12_copy_10 rfl (lv_at hl 3 rfl) ?_
      refine lv_iload_n C.1 C.2.1 dX12_copy_11 rfl (lv_at hl 4 rfl) ?_
      refine lv_iload C.1 C.2.1 dX12_copy_12 (lv_at hl 0 rfl) ?_
      refine lv_iadd C.1 C.2.1 dX12_copy_14 ?_
      refine m_i (y := nI (p2 + t)) (nI_add p2 t) ?_
      refine lv_aload_n C.1 C.2.1 dX12_copy_15 rfl (lv_at hl 1 rfl) ?_
      refine lv_iload_n C.1 C.2.1 dX12_copy_16 rfl (lv_at hl 2 rfl) ?_
      refine lv_iload C.1 C.2.1 dX12_copy_17 (lv_at hl 0 rfl) ?_
      refine lv_iadd C.1 C.2.1 dX12_copy_19 ?_
      refine m_i (y := nI (p1 + t)) (nI_add p1 t) ?_
      have hb_5 := w.1.byte (k := k1) (j := p1 + t) hk1 hs1 (by omega)
      refine m_bald C w (k := k1) (i := p1 + t) (n := n1) (wr := w1) hk1 hs1 (by omega) hn1 dX12_copy_20 ?_
      refine m_bast C w (k := k2) (i := p2 + t) (n := n2) (x := (M_3.1 k1 (p1 + t))) hk2 hs2 (by omega) hn2 hb_5 dX12_copy_21 (fun H locs w => ?_)
      obtain ⟨M_6, eM_6⟩ : ∃ zz, zz = mm_w M_3 k2 (p2 + t) (M_3.1 k1 (p1 + t)) := ⟨_, rfl⟩
      rw [← eM_6] at w
      refine lv_iinc (v := (nI (t + 1))) (lv' := [(5, .int (nI (t + 1))), (0, .ref (r (k1))), (1, .int (nI (p1))), (2, .ref (r (k2))), (3, .int (nI (p2))), (4, .int (nI (p3)))]) C.1 C.2.1 dX12_copy_22 hl (k := 0) rfl (nI_add t 1) (by decide) rfl (fun ls hl => ?_)
      refine lv_goto (tgt := 3) C.1 C.2.1 dX12_copy_25 (by decide) ?_
      have h9 : lv_has ls 6 [(5, .int (nI (t + 1))), (0, .ref (r (k1))), (1, .int (nI (p1))), (2, .ref (r (k2))), (3, .int (nI (p2))), (4, .int (nI (p3)))] := lv_sub hl [0, 1, 2, 3, 4, 5] rfl
      have hlZ : lv_has ls 6 [(5, .int (nI (t + 1))), (0, .ref (r (k1))), (1, .int (nI (p1))), (2, .ref (r (k2))), (3, .int (nI (p2))), (4, .int (nI (p3)))] := h9
      have wZ := w
      subst eM_3 eM_6
      refine ih (t + 1) (by omega) _ _ _ (wZ) ?_
      exact hlZ
  exact loop p3 0 (by omega) _ _ ls w hl

def f_X12_start  (M : mm_M) : mm_M :=
  let M_1 := mm_w M 117 14 (0 : Int32)
  M_1
theorem w_f_X12_start  (M : mm_M) : mm_fr [117] M (f_X12_start  M) := by
  unfold f_X12_start
  exact (mm_fr_w (by simp) (mm_fr_refl _ _))
set_option maxHeartbeats 4000000 in
set_option maxRecDepth 100000 in
theorem c_X12_start (l : Launch) (D : va_G) (b0 : Nat) (r : Nat → Nat) (M : mm_M)   : mm_Mv l yX12_start cX12_start 1 0 0 D b0 r [.ref (r (117))] M (fun M' => M' = f_X12_start  M) := by
  refine mm_enter (cc := cX12_start) (nL := 1) (ret := none) (by decide) (Nat.le_of_ble_eq_true rfl) ?_
  intro p e s m args below meth c C w ls hl
  have hl : lv_has ls 1 [(0, .ref (r (117)))] := hl
  refine lv_aload_n C.1 C.2.1 dX12_start_0 rfl (lv_at hl 0 rfl) ?_
  refine lv_iconst (v := 0) C.1 C.2.1 dX12_start_1 (by decide) ?_
  refine m_puti C w (k := 117) (j := 14) (x := (0 : Int32)) rfl flX12_250w (by decide) rfl rfl dX12_start_2 (fun H locs w => ?_)
  obtain ⟨M_1, eM_1⟩ : ∃ zz, zz = mm_w M 117 14 (0 : Int32) := ⟨_, rfl⟩
  rw [← eM_1] at w
  exact m_vret C w (by subst eM_1; exact Eq.symm (rfl)) dX12_start_5

def f_X12_put (v1 : Int32) (q : Nat) (M : mm_M) : mm_M :=
  let M_1 := mm_w M 128 q (mm_b (v1))
  let M_2 := mm_w M_1 117 14 (nI (q + 1))
  M_2
theorem w_f_X12_put (v1 : Int32) (q : Nat) (M : mm_M) : mm_fr [128, 117] M (f_X12_put v1 q M) := by
  unfold f_X12_put
  exact (mm_fr_w (by simp) (mm_fr_w (by simp) (mm_fr_refl _ _)))
set_option maxHeartbeats 4000000 in
set_option maxRecDepth 100000 in
theorem c_X12_put (l : Launch) (D : va_G) (b0 : Nat) (r : Nat → Nat) (M : mm_M) (v1 : Int32) (q : Nat) (hq : q < 1300) (h0 : M.1 117 14 = nI q) : mm_Mv l yX12_put cX12_put 2 0 0 D b0 r [.ref (r (117)), .int (v1)] M (fun M' => M' = f_X12_put v1 q M) := by
  refine mm_enter (cc := cX12_put) (nL := 2) (ret := none) (by decide) (Nat.le_of_ble_eq_true rfl) ?_
  intro p e s m args below meth c C w ls hl
  have hl : lv_has ls 2 [(0, .ref (r (117))), (1, .int (v1))] := hl
  refine lv_aload_n C.1 C.2.1 dX12_put_0 rfl (lv_at hl 0 rfl) ?_
  refine m_get C w (k := 117) (j := 12) (v := .ref (r (128))) flX12_113 (by decide) rfl rfl dX12_put_1 ?_
  refine lv_aload_n C.1 C.2.1 dX12_put_4 rfl (lv_at hl 0 rfl) ?_
  refine m_get C w (k := 117) (j := 14) (v := .int (M.1 117 14)) flX12_250 (by decide) rfl rfl dX12_put_5 ?_
  refine m_i (y := nI (q)) h0 ?_
  refine lv_iload_n C.1 C.2.1 dX12_put_8 rfl (lv_at hl 1 rfl) ?_
  refine lv_i2b (v := mm_b (v1)) C.1 C.2.1 dX12_put_9 rfl ?_
  refine m_bast C w (k := 128) (i := q) (n := 1300) (x := (mm_b (v1))) (by decide) rfl (by omega) (by decide) (mm_bb _) dX12_put_10 (fun H locs w => ?_)
  obtain ⟨M_1, eM_1⟩ : ∃ zz, zz = mm_w M 128 q (mm_b (v1)) := ⟨_, rfl⟩
  rw [← eM_1] at w
  refine lv_aload_n C.1 C.2.1 dX12_put_11 rfl (lv_at hl 0 rfl) ?_
  refine lv_dup C.1 C.2.1 dX12_put_12 rfl ?_
  refine m_get C w (k := 117) (j := 14) (v := .int (M_1.1 117 14)) flX12_250 (by decide) rfl rfl dX12_put_13 ?_
  refine m_i (y := nI (q)) (by have hf : mm_fr [128] M M_1 := (by subst eM_1; exact (mm_fr_w (by simp) (mm_fr_refl _ _))); rw [(hf 117 (by simp)).1]; exact h0) ?_
  refine lv_iconst (v := 1) C.1 C.2.1 dX12_put_16 (by decide) ?_
  refine lv_iadd C.1 C.2.1 dX12_put_17 ?_
  refine m_i (y := nI (q + 1)) (nI_add q 1) ?_
  refine m_puti C w (k := 117) (j := 14) (x := (nI (q + 1))) rfl flX12_250w (by decide) rfl rfl dX12_put_18 (fun H locs w => ?_)
  obtain ⟨M_2, eM_2⟩ : ∃ zz, zz = mm_w M_1 117 14 (nI (q + 1)) := ⟨_, rfl⟩
  rw [← eM_2] at w
  exact m_vret C w (by subst eM_1 eM_2; exact Eq.symm (rfl)) dX12_put_21

theorem r_X12_start (M : mm_M) : (f_X12_start M).1 117 14 = nI 0 := by
  simp [f_X12_start, mm_w]
  rfl
theorem r_X12_put (v1 : Int32) (q : Nat) (M : mm_M) : (f_X12_put v1 q M).1 117 14 = nI (q + 1) := by
  simp [f_X12_put, mm_w]

def f_X12_putRow_L3 (k1 : Nat) (p1 : Nat) (q : Nat) (σ : mm_M) : Nat → mm_M
  | 0 => σ
  | t + 1 =>
  let M_3 := f_X12_putRow_L3 k1 p1 q σ t
  let M_5 := f_X12_put (M_3.1 k1 (p1 + t)) (q + t) M_3
  M_5
theorem w_f_X12_putRow_L3 (k1 : Nat) (p1 : Nat) (q : Nat) (σ : mm_M) : ∀ t : Nat, mm_fr [128, 117] σ (f_X12_putRow_L3 k1 p1 q σ t)
  | 0 => mm_fr_refl _ _
  | t + 1 => have ih := w_f_X12_putRow_L3 k1 p1 q σ t
    ((w_f_X12_put _ _ _).on (by simp) ih)
def f_X12_putRow (k1 : Nat) (p1 : Nat) (p2 : Nat) (q : Nat) (M : mm_M) : mm_M :=
  let M_1 := f_X12_putRow_L3 k1 p1 q M p2
  M_1
theorem w_f_X12_putRow (k1 : Nat) (p1 : Nat) (p2 : Nat) (q : Nat) (M : mm_M) : mm_fr [128, 117] M (f_X12_putRow k1 p1 p2 q M) := by
  unfold f_X12_putRow
  exact ((w_f_X12_putRow_L3 _ _ _ _ p2).on (by simp) (mm_fr_refl _ _))
theorem i_X12_putRow (k1 p1 q : Nat) (M : mm_M) (h0 : M.1 117 14 = nI q) : ∀ t, (f_X12_putRow_L3 k1 p1 q M t).1 117 14 = nI (q + t)
  | 0 => h0
  | t + 1 => r_X12_put _ _ _

set_option maxHeartbeats 4000000 in
set_option maxRecDepth 100000 in
theorem c_X12_putRow (l : Launch) (D : va_G) (b0 : Nat) (r : Nat → Nat) (M : mm_M) (k1 : Nat) (p1 : Nat) (p2 : Nat) (q : Nat) {n1 : Nat} {w1 : Bool} (hk1 : k1 < 181) (hs1 : mm_sh k1 = .inl (.byte, n1, w1)) (hn1 : n1 < 2 ^ 31) (hp1 : p1 + p2 ≤ n1) (hp2 : n1 < 2 ^ 30) (hq : q + p2 ≤ 1300) (h0 : M.1 117 14 = nI q) : mm_Mv l yX12_putRow cX12_putRow 5 1 21 D b0 r [.ref (r (117)), .ref (r (k1)), .int (nI (p1)), .int (nI (p2))] M (fun M' => M' = f_X12_putRow k1 p1 p2 q M) := by
  refine mm_enter (cc := cX12_putRow) (nL := 5) (ret := none) (by decide) (Nat.le_of_ble_eq_true rfl) ?_
  intro p e s m args below meth c C w ls hl
  have hl : lv_has ls 5 [(0, .ref (r (117))), (1, .ref (r (k1))), (2, .int (nI (p1))), (3, .int (nI (p2)))] := hl
  refine lv_iconst (v := 0) C.1 C.2.1 dX12_putRow_0 (by decide) ?_
  refine lv_istore (lv' := [(4, .int 0), (0, .ref (r (117))), (1, .ref (r (k1))), (2, .int (nI (p1))), (3, .int (nI (p2)))]) C.1 C.2.1 dX12_putRow_1 hl (by decide) rfl (fun ls hl => ?_)
  have loop : ∀ (k t : Nat), t + k = p2 → ∀ (H : Heap) (locs : List Loc) (ls : Array Slot), mm_W D b0 r (f_X12_putRow_L3 k1 p1 q M t) s H locs → lv_has ls 5 [(4, .int (nI (t))), (0, .ref (r (117))), (1, .ref (r (k1))), (2, .int (nI (p1))), (3, .int (nI (p2)))] → W p l e (mm_rm 1 21) s m args below meth c H locs 0 0 (MQ below (va_Qv (fun M' => M' = f_X12_putRow k1 p1 p2 q M) (mm_U D b0 r) (fun q => b0 ≤ q)) args s 0 0 (fun q => b0 ≤ q)) (F0 m 3 ls []) := by
    intro k
    induction k with
    | zero =>
      intro t ht H locs ls w hl
      obtain rfl : p2 = t := by omega
      obtain ⟨M_1, eM_1⟩ : ∃ zz, zz = f_X12_putRow_L3 k1 p1 q M p2 := ⟨_, rfl⟩
      rw [← eM_1] at w
      refine lv_iload C.1 C.2.1 dX12_putRow_3 (lv_at hl 0 rfl) ?_
      refine lv_iload_n C.1 C.2.1 dX12_putRow_5 rfl (lv_at hl 4 rfl) ?_
      refine m_icmp_ge (tgt := 25) (a := p2) (b := p2) C (by omega) (by omega) dX12_putRow_6 (by decide) (fun _ => ?_) (fun h_2 => absurd h_2 (by omega))
      exact m_vret C w (by subst eM_1; exact Eq.symm (rfl)) dX12_putRow_25
    | succ k ih =>
      intro t ht H locs ls w hl
      obtain ⟨M_3, eM_3⟩ : ∃ zz, zz = f_X12_putRow_L3 k1 p1 q M t := ⟨_, rfl⟩
      rw [← eM_3] at w
      refine lv_iload C.1 C.2.1 dX12_putRow_3 (lv_at hl 0 rfl) ?_
      refine lv_iload_n C.1 C.2.1 dX12_putRow_5 rfl (lv_at hl 4 rfl) ?_
      refine m_icmp_ge (tgt := 25) (a := t) (b := p2) C (by omega) (by omega) dX12_putRow_6 (by decide) (fun h_4 => absurd h_4 (by omega)) (fun _ => ?_)
      refine lv_aload_n C.1 C.2.1 dX12_putRow_9 rfl (lv_at hl 1 rfl) ?_
      refine lv_aload_n C.1 C.2.1 dX12_putRow_10 rfl (lv_at hl 2 rfl) ?_
      refine lv_iload_n C.1 C.2.1 dX12_putRow_11 rfl (lv_at hl 3 rfl) ?_
      refine lv_iload C.1 C.2.1 dX12_putRow_12 (lv_at hl 0 rfl) ?_
      refine lv_iadd C.1 C.2.1 dX12_putRow_14 ?_
      refine m_i (y := nI (p1 + t)) (nI_add p1 t) ?_
      refine m_bald C w (k := k1) (i := p1 + t) (n := n1) (wr := w1) hk1 hs1 (by omega) hn1 dX12_putRow_15 ?_
      refine m_cvv C w hl cvX12_254 (k := 117) (by decide) rfl (q := (RX12, TX12, 58)) rfl rfl (As := [.int (M_3.1 k1 (p1 + t))]) (rest := []) (c_X12_put l D b0 r M_3 (M_3.1 k1 (p1 + t)) (q + t) (by omega) (by rw [eM_3]; exact i_X12_putRow k1 p1 q M h0 t)) rfl rfl (Nat.le_of_ble_eq_true rfl) ⟨Nat.le_of_ble_eq_true rfl, Nat.le_of_ble_eq_true rfl⟩ ⟨Nat.zero_le _, Nat.zero_le _⟩ dX12_putRow_16 (fun M_5 H locs eM_5 w => ?_)
      refine lv_iinc (v := (nI (t + 1))) (lv' := [(4, .int (nI (t + 1))), (0, .ref (r (117))), (1, .ref (r (k1))), (2, .int (nI (p1))), (3, .int (nI (p2)))]) C.1 C.2.1 dX12_putRow_19 hl (k := 0) rfl (nI_add t 1) (by decide) rfl (fun ls hl => ?_)
      refine lv_goto (tgt := 3) C.1 C.2.1 dX12_putRow_22 (by decide) ?_
      have h9 : lv_has ls 5 [(4, .int (nI (t + 1))), (0, .ref (r (117))), (1, .ref (r (k1))), (2, .int (nI (p1))), (3, .int (nI (p2)))] := lv_sub hl [0, 1, 2, 3, 4] rfl
      have hlZ : lv_has ls 5 [(4, .int (nI (t + 1))), (0, .ref (r (117))), (1, .ref (r (k1))), (2, .int (nI (p1))), (3, .int (nI (p2)))] := h9
      have wZ := w
      subst eM_3 eM_5
      refine ih (t + 1) (by omega) _ _ _ (wZ) ?_
      exact hlZ
  exact loop p2 0 (by omega) _ _ ls w hl

theorem r_X12_putRow (k1 p1 p2 q : Nat) (M : mm_M) (h0 : M.1 117 14 = nI q) : (f_X12_putRow k1 p1 p2 q M).1 117 14 = nI (q + p2) := i_X12_putRow k1 p1 q M h0 p2

def f_X12_turned (v1 : Int32) (v2 : Int32) : Int32 :=
  ((mm_us (v1) (v2)) ||| ((v1) <<< (((32 : Int32) - (v2)) &&& 31)))
set_option maxHeartbeats 4000000 in
set_option maxRecDepth 100000 in
theorem c_X12_turned (l : Launch) (D : va_G) (b0 : Nat) (r : Nat → Nat) (M : mm_M) (v1 : Int32) (v2 : Int32)  : mm_Mi l yX12_turned cX12_turned 2 .int 0 0 D b0 r [.int (v1), .int (v2)] M (fun v M' => v = f_X12_turned v1 v2 ∧ M' = M) := by
  refine mm_enter (cc := cX12_turned) (nL := 2) (ret := (some .int)) (by decide) (Nat.le_of_ble_eq_true rfl) ?_
  intro p e s m args below meth c C w ls hl
  have hl : lv_has ls 2 [(0, .int (v1)), (1, .int (v2))] := hl
  refine lv_iload_n C.1 C.2.1 dX12_turned_0 rfl (lv_at hl 0 rfl) ?_
  refine lv_iload_n C.1 C.2.1 dX12_turned_1 rfl (lv_at hl 1 rfl) ?_
  refine lv_iushr (v := mm_us (v1) (v2)) C.1 C.2.1 dX12_turned_2 rfl ?_
  refine lv_iload_n C.1 C.2.1 dX12_turned_3 rfl (lv_at hl 0 rfl) ?_
  refine lv_bipush (v := 32) C.1 C.2.1 dX12_turned_4 (by decide) ?_
  refine lv_iload_n C.1 C.2.1 dX12_turned_6 rfl (lv_at hl 1 rfl) ?_
  refine lv_isub C.1 C.2.1 dX12_turned_7 ?_
  refine lv_ishl C.1 C.2.1 dX12_turned_8 ?_
  refine lv_ior C.1 C.2.1 dX12_turned_9 ?_
  exact m_iret C w ⟨by exact Eq.symm (rfl), rfl⟩ dX12_turned_10

def f_X12_block_L482  (σ : mm_M) : Nat → mm_M
  | 0 => σ
  | t + 1 =>
  let M_11 := f_X12_block_L482 σ t
  let M_13 := mm_w M_11 126 t ((M_11.1 126 t) + (M_11.1 127 t))
  M_13
theorem w_f_X12_block_L482  (σ : mm_M) : ∀ t : Nat, mm_fr [126] σ (f_X12_block_L482 σ t)
  | 0 => mm_fr_refl _ _
  | t + 1 => have ih := w_f_X12_block_L482 σ t
    (mm_fr_w (by simp) ih)
def f_X12_block_L427  (σ : mm_M) : Nat → mm_M
  | 0 => σ
  | t1 + 1 =>
  let M_28 := f_X12_block_L427 σ t1
  let M_30 := mm_w M_28 127 (7 - t1) (M_28.1 127 ((7 - t1) - 1))
  M_30
theorem w_f_X12_block_L427  (σ : mm_M) : ∀ t1 : Nat, mm_fr [127] σ (f_X12_block_L427 σ t1)
  | 0 => mm_fr_refl _ _
  | t1 + 1 => have ih := w_f_X12_block_L427 σ t1
    (mm_fr_w (by simp) ih)
def f_X12_block_L250  (σ : mm_M) : Nat → mm_M
  | 0 => σ
  | t + 1 =>
  let M_14 := f_X12_block_L250 σ t
  let x3_19 := ((((M_14.1 127 7) + (((f_X12_turned (M_14.1 127 4) (6 : Int32)) ^^^ (f_X12_turned (M_14.1 127 4) (11 : Int32))) ^^^ (f_X12_turned (M_14.1 127 4) (25 : Int32)))) + (((M_14.1 127 4) &&& (M_14.1 127 5)) ^^^ (((M_14.1 127 4) ^^^ (-1 : Int32)) &&& (M_14.1 127 6)))) + (M_14.1 123 t)) + (M_14.1 125 t)
  let x4_23 := (((f_X12_turned (M_14.1 127 0) (2 : Int32)) ^^^ (f_X12_turned (M_14.1 127 0) (13 : Int32))) ^^^ (f_X12_turned (M_14.1 127 0) (22 : Int32))) + ((((M_14.1 127 0) &&& (M_14.1 127 1)) ^^^ ((M_14.1 127 0) &&& (M_14.1 127 2))) ^^^ ((M_14.1 127 1) &&& (M_14.1 127 2)))
  let M_24 := f_X12_block_L427 M_14 7
  let M_26 := mm_w M_24 127 4 ((M_24.1 127 4) + (x3_19))
  let M_27 := mm_w M_26 127 0 ((x3_19) + (x4_23))
  M_27
theorem w_f_X12_block_L250  (σ : mm_M) : ∀ t : Nat, mm_fr [127] σ (f_X12_block_L250 σ t)
  | 0 => mm_fr_refl _ _
  | t + 1 => have ih := w_f_X12_block_L250 σ t
    (mm_fr_w (by simp) (mm_fr_w (by simp) ((w_f_X12_block_L427 _ 7).on (by simp) ih)))
def f_X12_block_L224  (σ : mm_M) : Nat → mm_M
  | 0 => σ
  | t + 1 =>
  let M_31 := f_X12_block_L224 σ t
  let M_33 := mm_w M_31 127 t (M_31.1 126 t)
  M_33
theorem w_f_X12_block_L224  (σ : mm_M) : ∀ t : Nat, mm_fr [127] σ (f_X12_block_L224 σ t)
  | 0 => mm_fr_refl _ _
  | t + 1 => have ih := w_f_X12_block_L224 σ t
    (mm_fr_w (by simp) ih)
def f_X12_block_L97  (σ : mm_M) : Nat → mm_M
  | 0 => σ
  | t + 1 =>
  let M_34 := f_X12_block_L97 σ t
  let x3_38 := ((f_X12_turned (M_34.1 125 ((16 + t) - 15)) (7 : Int32)) ^^^ (f_X12_turned (M_34.1 125 ((16 + t) - 15)) (18 : Int32))) ^^^ (mm_us (M_34.1 125 ((16 + t) - 15)) (3 : Int32))
  let x4_41 := ((f_X12_turned (M_34.1 125 ((16 + t) - 2)) (17 : Int32)) ^^^ (f_X12_turned (M_34.1 125 ((16 + t) - 2)) (19 : Int32))) ^^^ (mm_us (M_34.1 125 ((16 + t) - 2)) (10 : Int32))
  let M_42 := mm_w M_34 125 (16 + t) ((((M_34.1 125 ((16 + t) - 16)) + (x3_38)) + (M_34.1 125 ((16 + t) - 7))) + (x4_41))
  M_42
theorem w_f_X12_block_L97  (σ : mm_M) : ∀ t : Nat, mm_fr [125] σ (f_X12_block_L97 σ t)
  | 0 => mm_fr_refl _ _
  | t + 1 => have ih := w_f_X12_block_L97 σ t
    (mm_fr_w (by simp) ih)
def f_X12_block_L2 (p1 : Nat) (σ : mm_M) : Nat → mm_M
  | 0 => σ
  | t + 1 =>
  let M_43 := f_X12_block_L2 p1 σ t
  let M_45 := mm_w M_43 125 t ((((((M_43.1 128 (p1 + (4 * t))) &&& (255 : Int32)) <<< ((24 : Int32) &&& 31)) ||| (((M_43.1 128 (p1 + (4 * t) + 1)) &&& (255 : Int32)) <<< ((16 : Int32) &&& 31))) ||| (((M_43.1 128 (p1 + (4 * t) + 2)) &&& (255 : Int32)) <<< ((8 : Int32) &&& 31))) ||| ((M_43.1 128 (p1 + (4 * t) + 3)) &&& (255 : Int32)))
  M_45
theorem w_f_X12_block_L2 (p1 : Nat) (σ : mm_M) : ∀ t : Nat, mm_fr [125] σ (f_X12_block_L2 p1 σ t)
  | 0 => mm_fr_refl _ _
  | t + 1 => have ih := w_f_X12_block_L2 p1 σ t
    (mm_fr_w (by simp) ih)
def f_X12_block (p1 : Nat) (M : mm_M) : mm_M :=
  let M_1 := f_X12_block_L2 p1 M 16
  let M_3 := f_X12_block_L97 M_1 48
  let M_5 := f_X12_block_L224 M_3 8
  let M_7 := f_X12_block_L250 M_5 64
  let M_9 := f_X12_block_L482 M_7 8
  M_9
theorem w_f_X12_block (p1 : Nat) (M : mm_M) : mm_fr [126, 127, 125] M (f_X12_block p1 M) := by
  unfold f_X12_block
  exact ((w_f_X12_block_L482 _ 8).on (by simp) ((w_f_X12_block_L250 _ 64).on (by simp) ((w_f_X12_block_L224 _ 8).on (by simp) ((w_f_X12_block_L97 _ 48).on (by simp) ((w_f_X12_block_L2 _ _ 16).on (by simp) (mm_fr_refl _ _))))))
set_option maxHeartbeats 4000000 in
set_option maxRecDepth 100000 in
theorem c_X12_block (l : Launch) (D : va_G) (b0 : Nat) (r : Nat → Nat) (M : mm_M) (p1 : Nat) (hp1 : p1 + 64 ≤ 1300) : mm_Mv l yX12_block cX12_block 6 1 21 D b0 r [.ref (r (117)), .int (nI (p1))] M (fun M' => M' = f_X12_block p1 M) := by
  refine mm_enter (cc := cX12_block) (nL := 6) (ret := none) (by decide) (Nat.le_of_ble_eq_true rfl) ?_
  intro p e s m args below meth c C w ls hl
  have hl : lv_has ls 6 [(0, .ref (r (117))), (1, .int (nI (p1)))] := hl
  refine lv_iconst (v := 0) C.1 C.2.1 dX12_block_0 (by decide) ?_
  refine lv_istore_n (lv' := [(2, .int 0), (0, .ref (r (117))), (1, .int (nI (p1)))]) C.1 C.2.1 dX12_block_1 rfl hl (by decide) rfl (fun ls hl => ?_)
  have loop : ∀ (k t : Nat), t + k = 16 → ∀ (H : Heap) (locs : List Loc) (ls : Array Slot), mm_W D b0 r (f_X12_block_L2 p1 M t) s H locs → lv_has ls 6 [(2, .int (nI (t))), (0, .ref (r (117))), (1, .int (nI (p1)))] → W p l e (mm_rm 1 21) s m args below meth c H locs 0 0 (MQ below (va_Qv (fun M' => M' = f_X12_block p1 M) (mm_U D b0 r) (fun q => b0 ≤ q)) args s 0 0 (fun q => b0 ≤ q)) (F0 m 2 ls []) := by
    intro k
    induction k with
    | zero =>
      intro t ht H locs ls w hl
      obtain rfl : 16 = t := by omega
      obtain ⟨M_1, eM_1⟩ : ∃ zz, zz = f_X12_block_L2 p1 M 16 := ⟨_, rfl⟩
      rw [← eM_1] at w
      refine lv_iload_n C.1 C.2.1 dX12_block_2 rfl (lv_at hl 0 rfl) ?_
      refine lv_bipush (v := 16) C.1 C.2.1 dX12_block_3 (by decide) ?_
      refine m_icmp_ge (tgt := 94) (a := 16) (b := 16) C (by omega) (by omega) dX12_block_5 (by decide) (fun _ => ?_) (fun h_2 => absurd h_2 (by omega))
      refine lv_bipush (v := 16) C.1 C.2.1 dX12_block_94 (by decide) ?_
      refine lv_istore_n (lv' := [(2, .int 16), (0, .ref (r (117))), (1, .int (nI (p1)))]) C.1 C.2.1 dX12_block_96 rfl hl (by decide) rfl (fun ls hl => ?_)
      have loop : ∀ (k t : Nat), t + k = 48 → ∀ (H : Heap) (locs : List Loc) (ls : Array Slot), mm_W D b0 r (f_X12_block_L97 M_1 t) s H locs → lv_has ls 6 [(2, .int (nI (16 + t))), (0, .ref (r (117))), (1, .int (nI (p1)))] → W p l e (mm_rm 1 21) s m args below meth c H locs 0 0 (MQ below (va_Qv (fun M' => M' = f_X12_block p1 M) (mm_U D b0 r) (fun q => b0 ≤ q)) args s 0 0 (fun q => b0 ≤ q)) (F0 m 97 ls []) := by
        intro k
        induction k with
        | zero =>
          intro t ht H locs ls w hl
          obtain rfl : 48 = t := by omega
          obtain ⟨M_3, eM_3⟩ : ∃ zz, zz = f_X12_block_L97 M_1 48 := ⟨_, rfl⟩
          rw [← eM_3] at w
          refine lv_iload_n C.1 C.2.1 dX12_block_97 rfl (lv_at hl 0 rfl) ?_
          refine lv_bipush (v := 64) C.1 C.2.1 dX12_block_98 (by decide) ?_
          refine m_icmp_ge (tgt := 222) (a := 16 + 48) (b := 64) C (by omega) (by omega) dX12_block_100 (by decide) (fun _ => ?_) (fun h_4 => absurd h_4 (by omega))
          refine lv_iconst (v := 0) C.1 C.2.1 dX12_block_222 (by decide) ?_
          refine lv_istore_n (lv' := [(2, .int 0), (0, .ref (r (117))), (1, .int (nI (p1)))]) C.1 C.2.1 dX12_block_223 rfl hl (by decide) rfl (fun ls hl => ?_)
          have loop : ∀ (k t : Nat), t + k = 8 → ∀ (H : Heap) (locs : List Loc) (ls : Array Slot), mm_W D b0 r (f_X12_block_L224 M_3 t) s H locs → lv_has ls 6 [(2, .int (nI (t))), (0, .ref (r (117))), (1, .int (nI (p1)))] → W p l e (mm_rm 1 21) s m args below meth c H locs 0 0 (MQ below (va_Qv (fun M' => M' = f_X12_block p1 M) (mm_U D b0 r) (fun q => b0 ≤ q)) args s 0 0 (fun q => b0 ≤ q)) (F0 m 224 ls []) := by
            intro k
            induction k with
            | zero =>
              intro t ht H locs ls w hl
              obtain rfl : 8 = t := by omega
              obtain ⟨M_5, eM_5⟩ : ∃ zz, zz = f_X12_block_L224 M_3 8 := ⟨_, rfl⟩
              rw [← eM_5] at w
              refine lv_iload_n C.1 C.2.1 dX12_block_224 rfl (lv_at hl 0 rfl) ?_
              refine lv_bipush (v := 8) C.1 C.2.1 dX12_block_225 (by decide) ?_
              refine m_icmp_ge (tgt := 248) (a := 8) (b := 8) C (by omega) (by omega) dX12_block_227 (by decide) (fun _ => ?_) (fun h_6 => absurd h_6 (by omega))
              refine lv_iconst (v := 0) C.1 C.2.1 dX12_block_248 (by decide) ?_
              refine lv_istore_n (lv' := [(2, .int 0), (0, .ref (r (117))), (1, .int (nI (p1)))]) C.1 C.2.1 dX12_block_249 rfl hl (by decide) rfl (fun ls hl => ?_)
              have loop : ∀ (k t : Nat), t + k = 64 → ∀ (H : Heap) (locs : List Loc) (ls : Array Slot), mm_W D b0 r (f_X12_block_L250 M_5 t) s H locs → lv_has ls 6 [(2, .int (nI (t))), (0, .ref (r (117))), (1, .int (nI (p1)))] → W p l e (mm_rm 1 21) s m args below meth c H locs 0 0 (MQ below (va_Qv (fun M' => M' = f_X12_block p1 M) (mm_U D b0 r) (fun q => b0 ≤ q)) args s 0 0 (fun q => b0 ≤ q)) (F0 m 250 ls []) := by
                intro k
                induction k with
                | zero =>
                  intro t ht H locs ls w hl
                  obtain rfl : 64 = t := by omega
                  obtain ⟨M_7, eM_7⟩ : ∃ zz, zz = f_X12_block_L250 M_5 64 := ⟨_, rfl⟩
                  rw [← eM_7] at w
                  refine lv_iload_n C.1 C.2.1 dX12_block_250 rfl (lv_at hl 0 rfl) ?_
                  refine lv_bipush (v := 64) C.1 C.2.1 dX12_block_251 (by decide) ?_
                  refine m_icmp_ge (tgt := 480) (a := 64) (b := 64) C (by omega) (by omega) dX12_block_253 (by decide) (fun _ => ?_) (fun h_8 => absurd h_8 (by omega))
                  refine lv_iconst (v := 0) C.1 C.2.1 dX12_block_480 (by decide) ?_
                  refine lv_istore_n (lv' := [(2, .int 0), (0, .ref (r (117))), (1, .int (nI (p1)))]) C.1 C.2.1 dX12_block_481 rfl hl (by decide) rfl (fun ls hl => ?_)
                  have loop : ∀ (k t : Nat), t + k = 8 → ∀ (H : Heap) (locs : List Loc) (ls : Array Slot), mm_W D b0 r (f_X12_block_L482 M_7 t) s H locs → lv_has ls 6 [(2, .int (nI (t))), (0, .ref (r (117))), (1, .int (nI (p1)))] → W p l e (mm_rm 1 21) s m args below meth c H locs 0 0 (MQ below (va_Qv (fun M' => M' = f_X12_block p1 M) (mm_U D b0 r) (fun q => b0 ≤ q)) args s 0 0 (fun q => b0 ≤ q)) (F0 m 482 ls []) := by
                    intro k
                    induction k with
                    | zero =>
                      intro t ht H locs ls w hl
                      obtain rfl : 8 = t := by omega
                      obtain ⟨M_9, eM_9⟩ : ∃ zz, zz = f_X12_block_L482 M_7 8 := ⟨_, rfl⟩
                      rw [← eM_9] at w
                      refine lv_iload_n C.1 C.2.1 dX12_block_482 rfl (lv_at hl 0 rfl) ?_
                      refine lv_bipush (v := 8) C.1 C.2.1 dX12_block_483 (by decide) ?_
                      refine m_icmp_ge (tgt := 509) (a := 8) (b := 8) C (by omega) (by omega) dX12_block_485 (by decide) (fun _ => ?_) (fun h_10 => absurd h_10 (by omega))
                      exact m_vret C w (by subst eM_1 eM_3 eM_5 eM_7 eM_9; exact Eq.symm (rfl)) dX12_block_509
                    | succ k ih =>
                      intro t ht H locs ls w hl
                      obtain ⟨M_11, eM_11⟩ : ∃ zz, zz = f_X12_block_L482 M_7 t := ⟨_, rfl⟩
                      rw [← eM_11] at w
                      refine lv_iload_n C.1 C.2.1 dX12_block_482 rfl (lv_at hl 0 rfl) ?_
                      refine lv_bipush (v := 8) C.1 C.2.1 dX12_block_483 (by decide) ?_
                      refine m_icmp_ge (tgt := 509) (a := t) (b := 8) C (by omega) (by omega) dX12_block_485 (by decide) (fun h_12 => absurd h_12 (by omega)) (fun _ => ?_)
                      refine lv_aload_n C.1 C.2.1 dX12_block_488 rfl (lv_at hl 1 rfl) ?_
                      refine m_get C w (k := 117) (j := 10) (v := .ref (r (126))) flX12_107 (by decide) rfl rfl dX12_block_489 ?_
                      refine lv_iload_n C.1 C.2.1 dX12_block_492 rfl (lv_at hl 0 rfl) ?_
                      refine lv_dup2_11 C.1 C.2.1 dX12_block_493 rfl rfl ?_
                      refine m_iald C w (k := 126) (i := t) (n := 8) (wr := true) (by decide) rfl (by omega) (by decide) dX12_block_494 ?_
                      refine lv_aload_n C.1 C.2.1 dX12_block_495 rfl (lv_at hl 1 rfl) ?_
                      refine m_get C w (k := 117) (j := 11) (v := .ref (r (127))) flX12_110 (by decide) rfl rfl dX12_block_496 ?_
                      refine lv_iload_n C.1 C.2.1 dX12_block_499 rfl (lv_at hl 0 rfl) ?_
                      refine m_iald C w (k := 127) (i := t) (n := 8) (wr := true) (by decide) rfl (by omega) (by decide) dX12_block_500 ?_
                      refine lv_iadd C.1 C.2.1 dX12_block_501 ?_
                      refine m_iast C w (k := 126) (i := t) (n := 8) (x := ((M_11.1 126 t) + (M_11.1 127 t))) (by decide) rfl (by omega) (by decide) dX12_block_502 (fun H locs w => ?_)
                      obtain ⟨M_13, eM_13⟩ : ∃ zz, zz = mm_w M_11 126 t ((M_11.1 126 t) + (M_11.1 127 t)) := ⟨_, rfl⟩
                      rw [← eM_13] at w
                      refine lv_iinc (v := (nI (t + 1))) (lv' := [(2, .int (nI (t + 1))), (0, .ref (r (117))), (1, .int (nI (p1)))]) C.1 C.2.1 dX12_block_503 hl (k := 0) rfl (nI_add t 1) (by decide) rfl (fun ls hl => ?_)
                      refine lv_goto (tgt := 482) C.1 C.2.1 dX12_block_506 (by decide) ?_
                      have h9 : lv_has ls 6 [(2, .int (nI (t + 1))), (0, .ref (r (117))), (1, .int (nI (p1)))] := lv_sub hl [0, 1, 2] rfl
                      have hlZ : lv_has ls 6 [(2, .int (nI (t + 1))), (0, .ref (r (117))), (1, .int (nI (p1)))] := h9
                      have wZ := w
                      subst eM_11 eM_13
                      refine ih (t + 1) (by omega) _ _ _ (wZ) ?_
                      exact hlZ
                  exact loop 8 0 (by omega) _ _ ls w hl
                | succ k ih =>
                  intro t ht H locs ls w hl
                  obtain ⟨M_14, eM_14⟩ : ∃ zz, zz = f_X12_block_L250 M_5 t := ⟨_, rfl⟩
                  rw [← eM_14] at w
                  refine lv_iload_n C.1 C.2.1 dX12_block_250 rfl (lv_at hl 0 rfl) ?_
                  refine lv_bipush (v := 64) C.1 C.2.1 dX12_block_251 (by decide) ?_
                  refine m_icmp_ge (tgt := 480) (a := t) (b := 64) C (by omega) (by omega) dX12_block_253 (by decide) (fun h_15 => absurd h_15 (by omega)) (fun _ => ?_)
                  refine lv_aload_n C.1 C.2.1 dX12_block_256 rfl (lv_at hl 1 rfl) ?_
                  refine m_get C w (k := 117) (j := 11) (v := .ref (r (127))) flX12_110 (by decide) rfl rfl dX12_block_257 ?_
                  refine lv_bipush (v := 7) C.1 C.2.1 dX12_block_260 (by decide) ?_
                  refine m_iald C w (k := 127) (i := 7) (n := 8) (wr := true) (by decide) rfl (by omega) (by decide) dX12_block_262 ?_
                  refine lv_aload_n C.1 C.2.1 dX12_block_263 rfl (lv_at hl 1 rfl) ?_
                  refine m_get C w (k := 117) (j := 11) (v := .ref (r (127))) flX12_110 (by decide) rfl rfl dX12_block_264 ?_
                  refine lv_iconst (v := 4) C.1 C.2.1 dX12_block_267 (by decide) ?_
                  refine m_iald C w (k := 127) (i := 4) (n := 8) (wr := true) (by decide) rfl (by omega) (by decide) dX12_block_268 ?_
                  refine lv_bipush (v := 6) C.1 C.2.1 dX12_block_269 (by decide) ?_
                  refine m_csi C w hl csX12_261 (As := [.int (M_14.1 127 4), .int 6]) (rest := [.int (M_14.1 127 7)]) (c_X12_turned l D b0 r M_14 (M_14.1 127 4) (6 : Int32) ) rfl rfl (Nat.le_of_ble_eq_true rfl) ⟨Nat.le_of_ble_eq_true rfl, Nat.le_of_ble_eq_true rfl⟩ ⟨Nat.zero_le _, Nat.zero_le _⟩ dX12_block_271 (fun v_16 M9 H locs e9 w => ?_)
                  obtain ⟨ev_16, e9⟩ := e9
                  rw [e9] at w
                  subst ev_16
                  refine lv_aload_n C.1 C.2.1 dX12_block_274 rfl (lv_at hl 1 rfl) ?_
                  refine m_get C w (k := 117) (j := 11) (v := .ref (r (127))) flX12_110 (by decide) rfl rfl dX12_block_275 ?_
                  refine lv_iconst (v := 4) C.1 C.2.1 dX12_block_278 (by decide) ?_
                  refine m_iald C w (k := 127) (i := 4) (n := 8) (wr := true) (by decide) rfl (by omega) (by decide) dX12_block_279 ?_
                  refine lv_bipush (v := 11) C.1 C.2.1 dX12_block_280 (by decide) ?_
                  refine m_csi C w hl csX12_261 (As := [.int (M_14.1 127 4), .int 11]) (rest := [.int (f_X12_turned (M_14.1 127 4) (6 : Int32)), .int (M_14.1 127 7)]) (c_X12_turned l D b0 r M_14 (M_14.1 127 4) (11 : Int32) ) rfl rfl (Nat.le_of_ble_eq_true rfl) ⟨Nat.le_of_ble_eq_true rfl, Nat.le_of_ble_eq_true rfl⟩ ⟨Nat.zero_le _, Nat.zero_le _⟩ dX12_block_282 (fun v_17 M9 H locs e9 w => ?_)
                  obtain ⟨ev_17, e9⟩ := e9
                  rw [e9] at w
                  subst ev_17
                  refine lv_ixor C.1 C.2.1 dX12_block_285 ?_
                  refine lv_aload_n C.1 C.2.1 dX12_block_286 rfl (lv_at hl 1 rfl) ?_
                  refine m_get C w (k := 117) (j := 11) (v := .ref (r (127))) flX12_110 (by decide) rfl rfl dX12_block_287 ?_
                  refine lv_iconst (v := 4) C.1 C.2.1 dX12_block_290 (by decide) ?_
                  refine m_iald C w (k := 127) (i := 4) (n := 8) (wr := true) (by decide) rfl (by omega) (by decide) dX12_block_291 ?_
                  refine lv_bipush (v := 25) C.1 C.2.1 dX12_block_292 (by decide) ?_
                  refine m_csi C w hl csX12_261 (As := [.int (M_14.1 127 4), .int 25]) (rest := [.int ((f_X12_turned (M_14.1 127 4) (6 : Int32)) ^^^ (f_X12_turned (M_14.1 127 4) (11 : Int32))), .int (M_14.1 127 7)]) (c_X12_turned l D b0 r M_14 (M_14.1 127 4) (25 : Int32) ) rfl rfl (Nat.le_of_ble_eq_true rfl) ⟨Nat.le_of_ble_eq_true rfl, Nat.le_of_ble_eq_true rfl⟩ ⟨Nat.zero_le _, Nat.zero_le _⟩ dX12_block_294 (fun v_18 M9 H locs e9 w => ?_)
                  obtain ⟨ev_18, e9⟩ := e9
                  rw [e9] at w
                  subst ev_18
                  refine lv_ixor C.1 C.2.1 dX12_block_297 ?_
                  refine lv_iadd C.1 C.2.1 dX12_block_298 ?_
                  refine lv_aload_n C.1 C.2.1 dX12_block_299 rfl (lv_at hl 1 rfl) ?_
                  refine m_get C w (k := 117) (j := 11) (v := .ref (r (127))) flX12_110 (by decide) rfl rfl dX12_block_300 ?_
                  refine lv_iconst (v := 4) C.1 C.2.1 dX12_block_303 (by decide) ?_
                  refine m_iald C w (k := 127) (i := 4) (n := 8) (wr := true) (by decide) rfl (by omega) (by decide) dX12_block_304 ?_
                  refine lv_aload_n C.1 C.2.1 dX12_block_305 rfl (lv_at hl 1 rfl) ?_
                  refine m_get C w (k := 117) (j := 11) (v := .ref (r (127))) flX12_110 (by decide) rfl rfl dX12_block_306 ?_
                  refine lv_iconst (v := 5) C.1 C.2.1 dX12_block_309 (by decide) ?_
                  refine m_iald C w (k := 127) (i := 5) (n := 8) (wr := true) (by decide) rfl (by omega) (by decide) dX12_block_310 ?_
                  refine lv_iand C.1 C.2.1 dX12_block_311 ?_
                  refine lv_aload_n C.1 C.2.1 dX12_block_312 rfl (lv_at hl 1 rfl) ?_
                  refine m_get C w (k := 117) (j := 11) (v := .ref (r (127))) flX12_110 (by decide) rfl rfl dX12_block_313 ?_
                  refine lv_iconst (v := 4) C.1 C.2.1 dX12_block_316 (by decide) ?_
                  refine m_iald C w (k := 127) (i := 4) (n := 8) (wr := true) (by decide) rfl (by omega) (by decide) dX12_block_317 ?_
                  refine lv_iconst (v := (-1)) C.1 C.2.1 dX12_block_318 (by decide) ?_
                  refine lv_ixor C.1 C.2.1 dX12_block_319 ?_
                  refine lv_aload_n C.1 C.2.1 dX12_block_320 rfl (lv_at hl 1 rfl) ?_
                  refine m_get C w (k := 117) (j := 11) (v := .ref (r (127))) flX12_110 (by decide) rfl rfl dX12_block_321 ?_
                  refine lv_bipush (v := 6) C.1 C.2.1 dX12_block_324 (by decide) ?_
                  refine m_iald C w (k := 127) (i := 6) (n := 8) (wr := true) (by decide) rfl (by omega) (by decide) dX12_block_326 ?_
                  refine lv_iand C.1 C.2.1 dX12_block_327 ?_
                  refine lv_ixor C.1 C.2.1 dX12_block_328 ?_
                  refine lv_iadd C.1 C.2.1 dX12_block_329 ?_
                  refine lv_aload_n C.1 C.2.1 dX12_block_330 rfl (lv_at hl 1 rfl) ?_
                  refine m_get C w (k := 117) (j := 7) (v := .ref (r (123))) flX12_89 (by decide) rfl rfl dX12_block_331 ?_
                  refine lv_iload_n C.1 C.2.1 dX12_block_334 rfl (lv_at hl 0 rfl) ?_
                  refine m_iald C w (k := 123) (i := t) (n := 64) (wr := true) (by decide) rfl (by omega) (by decide) dX12_block_335 ?_
                  refine lv_iadd C.1 C.2.1 dX12_block_336 ?_
                  refine lv_aload_n C.1 C.2.1 dX12_block_337 rfl (lv_at hl 1 rfl) ?_
                  refine m_get C w (k := 117) (j := 9) (v := .ref (r (125))) flX12_104 (by decide) rfl rfl dX12_block_338 ?_
                  refine lv_iload_n C.1 C.2.1 dX12_block_341 rfl (lv_at hl 0 rfl) ?_
                  refine m_iald C w (k := 125) (i := t) (n := 64) (wr := true) (by decide) rfl (by omega) (by decide) dX12_block_342 ?_
                  refine lv_iadd C.1 C.2.1 dX12_block_343 ?_
                  refine lv_topi (fun x3_19 ex3_19 => ?_)
                  refine lv_istore_n (lv' := [(3, .int (x3_19)), (2, .int (nI (t))), (0, .ref (r (117))), (1, .int (nI (p1)))]) C.1 C.2.1 dX12_block_344 rfl hl (by decide) rfl (fun ls hl => ?_)
                  refine lv_aload_n C.1 C.2.1 dX12_block_345 rfl (lv_at hl 2 rfl) ?_
                  refine m_get C w (k := 117) (j := 11) (v := .ref (r (127))) flX12_110 (by decide) rfl rfl dX12_block_346 ?_
                  refine lv_iconst (v := 0) C.1 C.2.1 dX12_block_349 (by decide) ?_
                  refine m_iald C w (k := 127) (i := 0) (n := 8) (wr := true) (by decide) rfl (by omega) (by decide) dX12_block_350 ?_
                  refine lv_iconst (v := 2) C.1 C.2.1 dX12_block_351 (by decide) ?_
                  refine m_csi C w hl csX12_261 (As := [.int (M_14.1 127 0), .int 2]) (rest := []) (c_X12_turned l D b0 r M_14 (M_14.1 127 0) (2 : Int32) ) rfl rfl (Nat.le_of_ble_eq_true rfl) ⟨Nat.le_of_ble_eq_true rfl, Nat.le_of_ble_eq_true rfl⟩ ⟨Nat.zero_le _, Nat.zero_le _⟩ dX12_block_352 (fun v_20 M9 H locs e9 w => ?_)
                  obtain ⟨ev_20, e9⟩ := e9
                  rw [e9] at w
                  subst ev_20
                  refine lv_aload_n C.1 C.2.1 dX12_block_355 rfl (lv_at hl 2 rfl) ?_
                  refine m_get C w (k := 117) (j := 11) (v := .ref (r (127))) flX12_110 (by decide) rfl rfl dX12_block_356 ?_
                  refine lv_iconst (v := 0) C.1 C.2.1 dX12_block_359 (by decide) ?_
                  refine m_iald C w (k := 127) (i := 0) (n := 8) (wr := true) (by decide) rfl (by omega) (by decide) dX12_block_360 ?_
                  refine lv_bipush (v := 13) C.1 C.2.1 dX12_block_361 (by decide) ?_
                  refine m_csi C w hl csX12_261 (As := [.int (M_14.1 127 0), .int 13]) (rest := [.int (f_X12_turned (M_14.1 127 0) (2 : Int32))]) (c_X12_turned l D b0 r M_14 (M_14.1 127 0) (13 : Int32) ) rfl rfl (Nat.le_of_ble_eq_true rfl) ⟨Nat.le_of_ble_eq_true rfl, Nat.le_of_ble_eq_true rfl⟩ ⟨Nat.zero_le _, Nat.zero_le _⟩ dX12_block_363 (fun v_21 M9 H locs e9 w => ?_)
                  obtain ⟨ev_21, e9⟩ := e9
                  rw [e9] at w
                  subst ev_21
                  refine lv_ixor C.1 C.2.1 dX12_block_366 ?_
                  refine lv_aload_n C.1 C.2.1 dX12_block_367 rfl (lv_at hl 2 rfl) ?_
                  refine m_get C w (k := 117) (j := 11) (v := .ref (r (127))) flX12_110 (by decide) rfl rfl dX12_block_368 ?_
                  refine lv_iconst (v := 0) C.1 C.2.1 dX12_block_371 (by decide) ?_
                  refine m_iald C w (k := 127) (i := 0) (n := 8) (wr := true) (by decide) rfl (by omega) (by decide) dX12_block_372 ?_
                  refine lv_bipush (v := 22) C.1 C.2.1 dX12_block_373 (by decide) ?_
                  refine m_csi C w hl csX12_261 (As := [.int (M_14.1 127 0), .int 22]) (rest := [.int ((f_X12_turned (M_14.1 127 0) (2 : Int32)) ^^^ (f_X12_turned (M_14.1 127 0) (13 : Int32)))]) (c_X12_turned l D b0 r M_14 (M_14.1 127 0) (22 : Int32) ) rfl rfl (Nat.le_of_ble_eq_true rfl) ⟨Nat.le_of_ble_eq_true rfl, Nat.le_of_ble_eq_true rfl⟩ ⟨Nat.zero_le _, Nat.zero_le _⟩ dX12_block_375 (fun v_22 M9 H locs e9 w => ?_)
                  obtain ⟨ev_22, e9⟩ := e9
                  rw [e9] at w
                  subst ev_22
                  refine lv_ixor C.1 C.2.1 dX12_block_378 ?_
                  refine lv_aload_n C.1 C.2.1 dX12_block_379 rfl (lv_at hl 2 rfl) ?_
                  refine m_get C w (k := 117) (j := 11) (v := .ref (r (127))) flX12_110 (by decide) rfl rfl dX12_block_380 ?_
                  refine lv_iconst (v := 0) C.1 C.2.1 dX12_block_383 (by decide) ?_
                  refine m_iald C w (k := 127) (i := 0) (n := 8) (wr := true) (by decide) rfl (by omega) (by decide) dX12_block_384 ?_
                  refine lv_aload_n C.1 C.2.1 dX12_block_385 rfl (lv_at hl 2 rfl) ?_
                  refine m_get C w (k := 117) (j := 11) (v := .ref (r (127))) flX12_110 (by decide) rfl rfl dX12_block_386 ?_
                  refine lv_iconst (v := 1) C.1 C.2.1 dX12_block_389 (by decide) ?_
                  refine m_iald C w (k := 127) (i := 1) (n := 8) (wr := true) (by decide) rfl (by omega) (by decide) dX12_block_390 ?_
                  refine lv_iand C.1 C.2.1 dX12_block_391 ?_
                  refine lv_aload_n C.1 C.2.1 dX12_block_392 rfl (lv_at hl 2 rfl) ?_
                  refine m_get C w (k := 117) (j := 11) (v := .ref (r (127))) flX12_110 (by decide) rfl rfl dX12_block_393 ?_
                  refine lv_iconst (v := 0) C.1 C.2.1 dX12_block_396 (by decide) ?_
                  refine m_iald C w (k := 127) (i := 0) (n := 8) (wr := true) (by decide) rfl (by omega) (by decide) dX12_block_397 ?_
                  refine lv_aload_n C.1 C.2.1 dX12_block_398 rfl (lv_at hl 2 rfl) ?_
                  refine m_get C w (k := 117) (j := 11) (v := .ref (r (127))) flX12_110 (by decide) rfl rfl dX12_block_399 ?_
                  refine lv_iconst (v := 2) C.1 C.2.1 dX12_block_402 (by decide) ?_
                  refine m_iald C w (k := 127) (i := 2) (n := 8) (wr := true) (by decide) rfl (by omega) (by decide) dX12_block_403 ?_
                  refine lv_iand C.1 C.2.1 dX12_block_404 ?_
                  refine lv_ixor C.1 C.2.1 dX12_block_405 ?_
                  refine lv_aload_n C.1 C.2.1 dX12_block_406 rfl (lv_at hl 2 rfl) ?_
                  refine m_get C w (k := 117) (j := 11) (v := .ref (r (127))) flX12_110 (by decide) rfl rfl dX12_block_407 ?_
                  refine lv_iconst (v := 1) C.1 C.2.1 dX12_block_410 (by decide) ?_
                  refine m_iald C w (k := 127) (i := 1) (n := 8) (wr := true) (by decide) rfl (by omega) (by decide) dX12_block_411 ?_
                  refine lv_aload_n C.1 C.2.1 dX12_block_412 rfl (lv_at hl 2 rfl) ?_
                  refine m_get C w (k := 117) (j := 11) (v := .ref (r (127))) flX12_110 (by decide) rfl rfl dX12_block_413 ?_
                  refine lv_iconst (v := 2) C.1 C.2.1 dX12_block_416 (by decide) ?_
                  refine m_iald C w (k := 127) (i := 2) (n := 8) (wr := true) (by decide) rfl (by omega) (by decide) dX12_block_417 ?_
                  refine lv_iand C.1 C.2.1 dX12_block_418 ?_
                  refine lv_ixor C.1 C.2.1 dX12_block_419 ?_
                  refine lv_iadd C.1 C.2.1 dX12_block_420 ?_
                  refine lv_topi (fun x4_23 ex4_23 => ?_)
                  refine lv_istore (lv' := [(4, .int (x4_23)), (3, .int (x3_19)), (2, .int (nI (t))), (0, .ref (r (117))), (1, .int (nI (p1)))]) C.1 C.2.1 dX12_block_421 hl (by decide) rfl (fun ls hl => ?_)
                  refine lv_bipush (v := 7) C.1 C.2.1 dX12_block_423 (by decide) ?_
                  refine lv_istore (lv' := [(5, .int 7), (4, .int (x4_23)), (3, .int (x3_19)), (2, .int (nI (t))), (0, .ref (r (117))), (1, .int (nI (p1)))]) C.1 C.2.1 dX12_block_425 hl (by decide) rfl (fun ls hl => ?_)
                  have loop1 : ∀ (k t1 : Nat), t1 + k = 7 → ∀ (H : Heap) (locs : List Loc) (ls : Array Slot), mm_W D b0 r (f_X12_block_L427 M_14 t1) s H locs → lv_has ls 6 [(5, .int (nI (7 - t1))), (4, .int (x4_23)), (3, .int (x3_19)), (2, .int (nI (t))), (0, .ref (r (117))), (1, .int (nI (p1)))] → W p l e (mm_rm 1 21) s m args below meth c H locs 0 0 (MQ below (va_Qv (fun M' => M' = f_X12_block p1 M) (mm_U D b0 r) (fun q => b0 ≤ q)) args s 0 0 (fun q => b0 ≤ q)) (F0 m 427 ls []) := by
                    intro k
                    induction k with
                    | zero =>
                      intro t1 ht1 H locs ls w hl
                      obtain rfl : 7 = t1 := by omega
                      obtain ⟨M_24, eM_24⟩ : ∃ zz, zz = f_X12_block_L427 M_14 7 := ⟨_, rfl⟩
                      rw [← eM_24] at w
                      refine lv_iload C.1 C.2.1 dX12_block_427 (lv_at hl 0 rfl) ?_
                      refine lv_if_le (tgt := 454) C.1 C.2.1 dX12_block_429 (by decide) (fun _ => ?_) (fun h_25 => absurd h_25 (fun q => q (by decide)))
                      refine lv_aload_n C.1 C.2.1 dX12_block_454 rfl (lv_at hl 4 rfl) ?_
                      refine m_get C w (k := 117) (j := 11) (v := .ref (r (127))) flX12_110 (by decide) rfl rfl dX12_block_455 ?_
                      refine lv_iconst (v := 4) C.1 C.2.1 dX12_block_458 (by decide) ?_
                      refine lv_dup2_11 C.1 C.2.1 dX12_block_459 rfl rfl ?_
                      refine m_iald C w (k := 127) (i := 4) (n := 8) (wr := true) (by decide) rfl (by omega) (by decide) dX12_block_460 ?_
                      refine lv_iload_n C.1 C.2.1 dX12_block_461 rfl (lv_at hl 2 rfl) ?_
                      refine lv_iadd C.1 C.2.1 dX12_block_462 ?_
                      refine m_iast C w (k := 127) (i := 4) (n := 8) (x := ((M_24.1 127 4) + (x3_19))) (by decide) rfl (by omega) (by decide) dX12_block_463 (fun H locs w => ?_)
                      obtain ⟨M_26, eM_26⟩ : ∃ zz, zz = mm_w M_24 127 4 ((M_24.1 127 4) + (x3_19)) := ⟨_, rfl⟩
                      rw [← eM_26] at w
                      refine lv_aload_n C.1 C.2.1 dX12_block_464 rfl (lv_at hl 4 rfl) ?_
                      refine m_get C w (k := 117) (j := 11) (v := .ref (r (127))) flX12_110 (by decide) rfl rfl dX12_block_465 ?_
                      refine lv_iconst (v := 0) C.1 C.2.1 dX12_block_468 (by decide) ?_
                      refine lv_iload_n C.1 C.2.1 dX12_block_469 rfl (lv_at hl 2 rfl) ?_
                      refine lv_iload C.1 C.2.1 dX12_block_470 (lv_at hl 1 rfl) ?_
                      refine lv_iadd C.1 C.2.1 dX12_block_472 ?_
                      refine m_iast C w (k := 127) (i := 0) (n := 8) (x := ((x3_19) + (x4_23))) (by decide) rfl (by omega) (by decide) dX12_block_473 (fun H locs w => ?_)
                      obtain ⟨M_27, eM_27⟩ : ∃ zz, zz = mm_w M_26 127 0 ((x3_19) + (x4_23)) := ⟨_, rfl⟩
                      rw [← eM_27] at w
                      refine lv_iinc (v := (nI (t + 1))) (lv' := [(2, .int (nI (t + 1))), (5, .int (nI (7 - 7))), (4, .int (x4_23)), (3, .int (x3_19)), (0, .ref (r (117))), (1, .int (nI (p1)))]) C.1 C.2.1 dX12_block_474 hl (k := 3) rfl (nI_add t 1) (by decide) rfl (fun ls hl => ?_)
                      refine lv_goto (tgt := 250) C.1 C.2.1 dX12_block_477 (by decide) ?_
                      have h9 : lv_has ls 6 [(2, .int (nI (t + 1))), (0, .ref (r (117))), (1, .int (nI (p1)))] := lv_sub hl [0, 4, 5] rfl
                      have hlZ : lv_has ls 6 [(2, .int (nI (t + 1))), (0, .ref (r (117))), (1, .int (nI (p1)))] := h9
                      have wZ := w
                      subst eM_14 ex3_19 ex4_23 eM_24 eM_26 eM_27
                      refine ih (t + 1) (by omega) _ _ _ (wZ) ?_
                      exact hlZ
                    | succ k ih =>
                      intro t1 ht1 H locs ls w hl
                      obtain ⟨M_28, eM_28⟩ : ∃ zz, zz = f_X12_block_L427 M_14 t1 := ⟨_, rfl⟩
                      rw [← eM_28] at w
                      refine lv_iload C.1 C.2.1 dX12_block_427 (lv_at hl 0 rfl) ?_
                      refine lv_if_le (tgt := 454) C.1 C.2.1 dX12_block_429 (by decide) (fun h_29 => absurd h_29 (nI_nle (by omega) (by omega))) (fun _ => ?_)
                      refine lv_aload_n C.1 C.2.1 dX12_block_432 rfl (lv_at hl 4 rfl) ?_
                      refine m_get C w (k := 117) (j := 11) (v := .ref (r (127))) flX12_110 (by decide) rfl rfl dX12_block_433 ?_
                      refine lv_iload C.1 C.2.1 dX12_block_436 (lv_at hl 0 rfl) ?_
                      refine lv_aload_n C.1 C.2.1 dX12_block_438 rfl (lv_at hl 4 rfl) ?_
                      refine m_get C w (k := 117) (j := 11) (v := .ref (r (127))) flX12_110 (by decide) rfl rfl dX12_block_439 ?_
                      refine lv_iload C.1 C.2.1 dX12_block_442 (lv_at hl 0 rfl) ?_
                      refine lv_iconst (v := 1) C.1 C.2.1 dX12_block_444 (by decide) ?_
                      refine lv_isub C.1 C.2.1 dX12_block_445 ?_
                      refine m_i (y := nI ((7 - t1) - 1)) (pk_sub (a := 7 - t1) (b := 1) (by omega)) ?_
                      refine m_iald C w (k := 127) (i := (7 - t1) - 1) (n := 8) (wr := true) (by decide) rfl (by omega) (by decide) dX12_block_446 ?_
                      refine m_iast C w (k := 127) (i := 7 - t1) (n := 8) (x := (M_28.1 127 ((7 - t1) - 1))) (by decide) rfl (by omega) (by decide) dX12_block_447 (fun H locs w => ?_)
                      obtain ⟨M_30, eM_30⟩ : ∃ zz, zz = mm_w M_28 127 (7 - t1) (M_28.1 127 ((7 - t1) - 1)) := ⟨_, rfl⟩
                      rw [← eM_30] at w
                      refine lv_iinc (v := (nI (7 - t1 - 1))) (lv' := [(5, .int (nI (7 - t1 - 1))), (4, .int (x4_23)), (3, .int (x3_19)), (2, .int (nI (t))), (0, .ref (r (117))), (1, .int (nI (p1)))]) C.1 C.2.1 dX12_block_448 hl (k := 0) rfl (mm_dec (7 - t1) 1 (by omega)) (by decide) rfl (fun ls hl => ?_)
                      refine lv_goto (tgt := 427) C.1 C.2.1 dX12_block_451 (by decide) ?_
                      have h9 : lv_has ls 6 [(5, .int (nI (7 - t1 - 1))), (4, .int (x4_23)), (3, .int (x3_19)), (2, .int (nI (t))), (0, .ref (r (117))), (1, .int (nI (p1)))] := lv_sub hl [0, 1, 2, 3, 4, 5] rfl
                      rw [show ((nI (7 - t1 - 1)) : Int32) = (nI (7 - (t1 + 1))) from (by first | rfl | (congr 1; omega))] at h9
                      have hlZ : lv_has ls 6 [(5, .int (nI (7 - (t1 + 1)))), (4, .int (x4_23)), (3, .int (x3_19)), (2, .int (nI (t))), (0, .ref (r (117))), (1, .int (nI (p1)))] := h9
                      have wZ := w
                      subst eM_28 eM_30
                      refine ih (t1 + 1) (by omega) _ _ _ (wZ) ?_
                      exact hlZ
                  exact loop1 7 0 (by omega) _ _ ls w (by have h9 := hl; first | exact h9 | simpa using h9)
              exact loop 64 0 (by omega) _ _ ls w hl
            | succ k ih =>
              intro t ht H locs ls w hl
              obtain ⟨M_31, eM_31⟩ : ∃ zz, zz = f_X12_block_L224 M_3 t := ⟨_, rfl⟩
              rw [← eM_31] at w
              refine lv_iload_n C.1 C.2.1 dX12_block_224 rfl (lv_at hl 0 rfl) ?_
              refine lv_bipush (v := 8) C.1 C.2.1 dX12_block_225 (by decide) ?_
              refine m_icmp_ge (tgt := 248) (a := t) (b := 8) C (by omega) (by omega) dX12_block_227 (by decide) (fun h_32 => absurd h_32 (by omega)) (fun _ => ?_)
              refine lv_aload_n C.1 C.2.1 dX12_block_230 rfl (lv_at hl 1 rfl) ?_
              refine m_get C w (k := 117) (j := 11) (v := .ref (r (127))) flX12_110 (by decide) rfl rfl dX12_block_231 ?_
              refine lv_iload_n C.1 C.2.1 dX12_block_234 rfl (lv_at hl 0 rfl) ?_
              refine lv_aload_n C.1 C.2.1 dX12_block_235 rfl (lv_at hl 1 rfl) ?_
              refine m_get C w (k := 117) (j := 10) (v := .ref (r (126))) flX12_107 (by decide) rfl rfl dX12_block_236 ?_
              refine lv_iload_n C.1 C.2.1 dX12_block_239 rfl (lv_at hl 0 rfl) ?_
              refine m_iald C w (k := 126) (i := t) (n := 8) (wr := true) (by decide) rfl (by omega) (by decide) dX12_block_240 ?_
              refine m_iast C w (k := 127) (i := t) (n := 8) (x := (M_31.1 126 t)) (by decide) rfl (by omega) (by decide) dX12_block_241 (fun H locs w => ?_)
              obtain ⟨M_33, eM_33⟩ : ∃ zz, zz = mm_w M_31 127 t (M_31.1 126 t) := ⟨_, rfl⟩
              rw [← eM_33] at w
              refine lv_iinc (v := (nI (t + 1))) (lv' := [(2, .int (nI (t + 1))), (0, .ref (r (117))), (1, .int (nI (p1)))]) C.1 C.2.1 dX12_block_242 hl (k := 0) rfl (nI_add t 1) (by decide) rfl (fun ls hl => ?_)
              refine lv_goto (tgt := 224) C.1 C.2.1 dX12_block_245 (by decide) ?_
              have h9 : lv_has ls 6 [(2, .int (nI (t + 1))), (0, .ref (r (117))), (1, .int (nI (p1)))] := lv_sub hl [0, 1, 2] rfl
              have hlZ : lv_has ls 6 [(2, .int (nI (t + 1))), (0, .ref (r (117))), (1, .int (nI (p1)))] := h9
              have wZ := w
              subst eM_31 eM_33
              refine ih (t + 1) (by omega) _ _ _ (wZ) ?_
              exact hlZ
          exact loop 8 0 (by omega) _ _ ls w hl
        | succ k ih =>
          intro t ht H locs ls w hl
          obtain ⟨M_34, eM_34⟩ : ∃ zz, zz = f_X12_block_L97 M_1 t := ⟨_, rfl⟩
          rw [← eM_34] at w
          refine lv_iload_n C.1 C.2.1 dX12_block_97 rfl (lv_at hl 0 rfl) ?_
          refine lv_bipush (v := 64) C.1 C.2.1 dX12_block_98 (by decide) ?_
          refine m_icmp_ge (tgt := 222) (a := 16 + t) (b := 64) C (by omega) (by omega) dX12_block_100 (by decide) (fun h_35 => absurd h_35 (by omega)) (fun _ => ?_)
          refine lv_aload_n C.1 C.2.1 dX12_block_103 rfl (lv_at hl 1 rfl) ?_
          refine m_get C w (k := 117) (j := 9) (v := .ref (r (125))) flX12_104 (by decide) rfl rfl dX12_block_104 ?_
          refine lv_iload_n C.1 C.2.1 dX12_block_107 rfl (lv_at hl 0 rfl) ?_
          refine lv_bipush (v := 15) C.1 C.2.1 dX12_block_108 (by decide) ?_
          refine lv_isub C.1 C.2.1 dX12_block_110 ?_
          refine m_i (y := nI ((16 + t) - 15)) (pk_sub (a := 16 + t) (b := 15) (by omega)) ?_
          refine m_iald C w (k := 125) (i := (16 + t) - 15) (n := 64) (wr := true) (by decide) rfl (by omega) (by decide) dX12_block_111 ?_
          refine lv_bipush (v := 7) C.1 C.2.1 dX12_block_112 (by decide) ?_
          refine m_csi C w hl csX12_261 (As := [.int (M_34.1 125 ((16 + t) - 15)), .int 7]) (rest := []) (c_X12_turned l D b0 r M_34 (M_34.1 125 ((16 + t) - 15)) (7 : Int32) ) rfl rfl (Nat.le_of_ble_eq_true rfl) ⟨Nat.le_of_ble_eq_true rfl, Nat.le_of_ble_eq_true rfl⟩ ⟨Nat.zero_le _, Nat.zero_le _⟩ dX12_block_114 (fun v_36 M9 H locs e9 w => ?_)
          obtain ⟨ev_36, e9⟩ := e9
          rw [e9] at w
          subst ev_36
          refine lv_aload_n C.1 C.2.1 dX12_block_117 rfl (lv_at hl 1 rfl) ?_
          refine m_get C w (k := 117) (j := 9) (v := .ref (r (125))) flX12_104 (by decide) rfl rfl dX12_block_118 ?_
          refine lv_iload_n C.1 C.2.1 dX12_block_121 rfl (lv_at hl 0 rfl) ?_
          refine lv_bipush (v := 15) C.1 C.2.1 dX12_block_122 (by decide) ?_
          refine lv_isub C.1 C.2.1 dX12_block_124 ?_
          refine m_i (y := nI ((16 + t) - 15)) (pk_sub (a := 16 + t) (b := 15) (by omega)) ?_
          refine m_iald C w (k := 125) (i := (16 + t) - 15) (n := 64) (wr := true) (by decide) rfl (by omega) (by decide) dX12_block_125 ?_
          refine lv_bipush (v := 18) C.1 C.2.1 dX12_block_126 (by decide) ?_
          refine m_csi C w hl csX12_261 (As := [.int (M_34.1 125 ((16 + t) - 15)), .int 18]) (rest := [.int (f_X12_turned (M_34.1 125 ((16 + t) - 15)) (7 : Int32))]) (c_X12_turned l D b0 r M_34 (M_34.1 125 ((16 + t) - 15)) (18 : Int32) ) rfl rfl (Nat.le_of_ble_eq_true rfl) ⟨Nat.le_of_ble_eq_true rfl, Nat.le_of_ble_eq_true rfl⟩ ⟨Nat.zero_le _, Nat.zero_le _⟩ dX12_block_128 (fun v_37 M9 H locs e9 w => ?_)
          obtain ⟨ev_37, e9⟩ := e9
          rw [e9] at w
          subst ev_37
          refine lv_ixor C.1 C.2.1 dX12_block_131 ?_
          refine lv_aload_n C.1 C.2.1 dX12_block_132 rfl (lv_at hl 1 rfl) ?_
          refine m_get C w (k := 117) (j := 9) (v := .ref (r (125))) flX12_104 (by decide) rfl rfl dX12_block_133 ?_
          refine lv_iload_n C.1 C.2.1 dX12_block_136 rfl (lv_at hl 0 rfl) ?_
          refine lv_bipush (v := 15) C.1 C.2.1 dX12_block_137 (by decide) ?_
          refine lv_isub C.1 C.2.1 dX12_block_139 ?_
          refine m_i (y := nI ((16 + t) - 15)) (pk_sub (a := 16 + t) (b := 15) (by omega)) ?_
          refine m_iald C w (k := 125) (i := (16 + t) - 15) (n := 64) (wr := true) (by decide) rfl (by omega) (by decide) dX12_block_140 ?_
          refine lv_iconst (v := 3) C.1 C.2.1 dX12_block_141 (by decide) ?_
          refine lv_iushr (v := mm_us (M_34.1 125 ((16 + t) - 15)) (3 : Int32)) C.1 C.2.1 dX12_block_142 rfl ?_
          refine lv_ixor C.1 C.2.1 dX12_block_143 ?_
          refine lv_topi (fun x3_38 ex3_38 => ?_)
          refine lv_istore_n (lv' := [(3, .int (x3_38)), (2, .int (nI (16 + t))), (0, .ref (r (117))), (1, .int (nI (p1)))]) C.1 C.2.1 dX12_block_144 rfl hl (by decide) rfl (fun ls hl => ?_)
          refine lv_aload_n C.1 C.2.1 dX12_block_145 rfl (lv_at hl 2 rfl) ?_
          refine m_get C w (k := 117) (j := 9) (v := .ref (r (125))) flX12_104 (by decide) rfl rfl dX12_block_146 ?_
          refine lv_iload_n C.1 C.2.1 dX12_block_149 rfl (lv_at hl 1 rfl) ?_
          refine lv_iconst (v := 2) C.1 C.2.1 dX12_block_150 (by decide) ?_
          refine lv_isub C.1 C.2.1 dX12_block_151 ?_
          refine m_i (y := nI ((16 + t) - 2)) (pk_sub (a := 16 + t) (b := 2) (by omega)) ?_
          refine m_iald C w (k := 125) (i := (16 + t) - 2) (n := 64) (wr := true) (by decide) rfl (by omega) (by decide) dX12_block_152 ?_
          refine lv_bipush (v := 17) C.1 C.2.1 dX12_block_153 (by decide) ?_
          refine m_csi C w hl csX12_261 (As := [.int (M_34.1 125 ((16 + t) - 2)), .int 17]) (rest := []) (c_X12_turned l D b0 r M_34 (M_34.1 125 ((16 + t) - 2)) (17 : Int32) ) rfl rfl (Nat.le_of_ble_eq_true rfl) ⟨Nat.le_of_ble_eq_true rfl, Nat.le_of_ble_eq_true rfl⟩ ⟨Nat.zero_le _, Nat.zero_le _⟩ dX12_block_155 (fun v_39 M9 H locs e9 w => ?_)
          obtain ⟨ev_39, e9⟩ := e9
          rw [e9] at w
          subst ev_39
          refine lv_aload_n C.1 C.2.1 dX12_block_158 rfl (lv_at hl 2 rfl) ?_
          refine m_get C w (k := 117) (j := 9) (v := .ref (r (125))) flX12_104 (by decide) rfl rfl dX12_block_159 ?_
          refine lv_iload_n C.1 C.2.1 dX12_block_162 rfl (lv_at hl 1 rfl) ?_
          refine lv_iconst (v := 2) C.1 C.2.1 dX12_block_163 (by decide) ?_
          refine lv_isub C.1 C.2.1 dX12_block_164 ?_
          refine m_i (y := nI ((16 + t) - 2)) (pk_sub (a := 16 + t) (b := 2) (by omega)) ?_
          refine m_iald C w (k := 125) (i := (16 + t) - 2) (n := 64) (wr := true) (by decide) rfl (by omega) (by decide) dX12_block_165 ?_
          refine lv_bipush (v := 19) C.1 C.2.1 dX12_block_166 (by decide) ?_
          refine m_csi C w hl csX12_261 (As := [.int (M_34.1 125 ((16 + t) - 2)), .int 19]) (rest := [.int (f_X12_turned (M_34.1 125 ((16 + t) - 2)) (17 : Int32))]) (c_X12_turned l D b0 r M_34 (M_34.1 125 ((16 + t) - 2)) (19 : Int32) ) rfl rfl (Nat.le_of_ble_eq_true rfl) ⟨Nat.le_of_ble_eq_true rfl, Nat.le_of_ble_eq_true rfl⟩ ⟨Nat.zero_le _, Nat.zero_le _⟩ dX12_block_168 (fun v_40 M9 H locs e9 w => ?_)
          obtain ⟨ev_40, e9⟩ := e9
          rw [e9] at w
          subst ev_40
          refine lv_ixor C.1 C.2.1 dX12_block_171 ?_
          refine lv_aload_n C.1 C.2.1 dX12_block_172 rfl (lv_at hl 2 rfl) ?_
          refine m_get C w (k := 117) (j := 9) (v := .ref (r (125))) flX12_104 (by decide) rfl rfl dX12_block_173 ?_
          refine lv_iload_n C.1 C.2.1 dX12_block_176 rfl (lv_at hl 1 rfl) ?_
          refine lv_iconst (v := 2) C.1 C.2.1 dX12_block_177 (by decide) ?_
          refine lv_isub C.1 C.2.1 dX12_block_178 ?_
          refine m_i (y := nI ((16 + t) - 2)) (pk_sub (a := 16 + t) (b := 2) (by omega)) ?_
          refine m_iald C w (k := 125) (i := (16 + t) - 2) (n := 64) (wr := true) (by decide) rfl (by omega) (by decide) dX12_block_179 ?_
          refine lv_bipush (v := 10) C.1 C.2.1 dX12_block_180 (by decide) ?_
          refine lv_iushr (v := mm_us (M_34.1 125 ((16 + t) - 2)) (10 : Int32)) C.1 C.2.1 dX12_block_182 rfl ?_
          refine lv_ixor C.1 C.2.1 dX12_block_183 ?_
          refine lv_topi (fun x4_41 ex4_41 => ?_)
          refine lv_istore (lv' := [(4, .int (x4_41)), (3, .int (x3_38)), (2, .int (nI (16 + t))), (0, .ref (r (117))), (1, .int (nI (p1)))]) C.1 C.2.1 dX12_block_184 hl (by decide) rfl (fun ls hl => ?_)
          refine lv_aload_n C.1 C.2.1 dX12_block_186 rfl (lv_at hl 3 rfl) ?_
          refine m_get C w (k := 117) (j := 9) (v := .ref (r (125))) flX12_104 (by decide) rfl rfl dX12_block_187 ?_
          refine lv_iload_n C.1 C.2.1 dX12_block_190 rfl (lv_at hl 2 rfl) ?_
          refine lv_aload_n C.1 C.2.1 dX12_block_191 rfl (lv_at hl 3 rfl) ?_
          refine m_get C w (k := 117) (j := 9) (v := .ref (r (125))) flX12_104 (by decide) rfl rfl dX12_block_192 ?_
          refine lv_iload_n C.1 C.2.1 dX12_block_195 rfl (lv_at hl 2 rfl) ?_
          refine lv_bipush (v := 16) C.1 C.2.1 dX12_block_196 (by decide) ?_
          refine lv_isub C.1 C.2.1 dX12_block_198 ?_
          refine m_i (y := nI ((16 + t) - 16)) (pk_sub (a := 16 + t) (b := 16) (by omega)) ?_
          refine m_iald C w (k := 125) (i := (16 + t) - 16) (n := 64) (wr := true) (by decide) rfl (by omega) (by decide) dX12_block_199 ?_
          refine lv_iload_n C.1 C.2.1 dX12_block_200 rfl (lv_at hl 1 rfl) ?_
          refine lv_iadd C.1 C.2.1 dX12_block_201 ?_
          refine lv_aload_n C.1 C.2.1 dX12_block_202 rfl (lv_at hl 3 rfl) ?_
          refine m_get C w (k := 117) (j := 9) (v := .ref (r (125))) flX12_104 (by decide) rfl rfl dX12_block_203 ?_
          refine lv_iload_n C.1 C.2.1 dX12_block_206 rfl (lv_at hl 2 rfl) ?_
          refine lv_bipush (v := 7) C.1 C.2.1 dX12_block_207 (by decide) ?_
          refine lv_isub C.1 C.2.1 dX12_block_209 ?_
          refine m_i (y := nI ((16 + t) - 7)) (pk_sub (a := 16 + t) (b := 7) (by omega)) ?_
          refine m_iald C w (k := 125) (i := (16 + t) - 7) (n := 64) (wr := true) (by decide) rfl (by omega) (by decide) dX12_block_210 ?_
          refine lv_iadd C.1 C.2.1 dX12_block_211 ?_
          refine lv_iload C.1 C.2.1 dX12_block_212 (lv_at hl 0 rfl) ?_
          refine lv_iadd C.1 C.2.1 dX12_block_214 ?_
          refine m_iast C w (k := 125) (i := 16 + t) (n := 64) (x := ((((M_34.1 125 ((16 + t) - 16)) + (x3_38)) + (M_34.1 125 ((16 + t) - 7))) + (x4_41))) (by decide) rfl (by omega) (by decide) dX12_block_215 (fun H locs w => ?_)
          obtain ⟨M_42, eM_42⟩ : ∃ zz, zz = mm_w M_34 125 (16 + t) ((((M_34.1 125 ((16 + t) - 16)) + (x3_38)) + (M_34.1 125 ((16 + t) - 7))) + (x4_41)) := ⟨_, rfl⟩
          rw [← eM_42] at w
          refine lv_iinc (v := (nI (16 + t + 1))) (lv' := [(2, .int (nI (16 + t + 1))), (4, .int (x4_41)), (3, .int (x3_38)), (0, .ref (r (117))), (1, .int (nI (p1)))]) C.1 C.2.1 dX12_block_216 hl (k := 2) rfl (nI_add (16 + t) 1) (by decide) rfl (fun ls hl => ?_)
          refine lv_goto (tgt := 97) C.1 C.2.1 dX12_block_219 (by decide) ?_
          have h9 : lv_has ls 6 [(2, .int (nI (16 + t + 1))), (0, .ref (r (117))), (1, .int (nI (p1)))] := lv_sub hl [0, 3, 4] rfl
          rw [show ((nI (16 + t + 1)) : Int32) = (nI (16 + (t + 1))) from (by first | rfl | (congr 1; omega))] at h9
          have hlZ : lv_has ls 6 [(2, .int (nI (16 + (t + 1)))), (0, .ref (r (117))), (1, .int (nI (p1)))] := h9
          have wZ := w
          subst eM_34 ex3_38 ex4_41 eM_42
          refine ih (t + 1) (by omega) _ _ _ (wZ) ?_
          exact hlZ
      exact loop 48 0 (by omega) _ _ ls w (by have h9 := hl; first | exact h9 | simpa using h9)
    | succ k ih =>
      intro t ht H locs ls w hl
      obtain ⟨M_43, eM_43⟩ : ∃ zz, zz = f_X12_block_L2 p1 M t := ⟨_, rfl⟩
      rw [← eM_43] at w
      refine lv_iload_n C.1 C.2.1 dX12_block_2 rfl (lv_at hl 0 rfl) ?_
      refine lv_bipush (v := 16) C.1 C.2.1 dX12_block_3 (by decide) ?_
      refine m_icmp_ge (tgt := 94) (a := t) (b := 16) C (by omega) (by omega) dX12_block_5 (by decide) (fun h_44 => absurd h_44 (by omega)) (fun _ => ?_)
      refine lv_aload_n C.1 C.2.1 dX12_block_8 rfl (lv_at hl 1 rfl) ?_
      refine m_get C w (k := 117) (j := 9) (v := .ref (r (125))) flX12_104 (by decide) rfl rfl dX12_block_9 ?_
      refine lv_iload_n C.1 C.2.1 dX12_block_12 rfl (lv_at hl 0 rfl) ?_
      refine lv_aload_n C.1 C.2.1 dX12_block_13 rfl (lv_at hl 1 rfl) ?_
      refine m_get C w (k := 117) (j := 12) (v := .ref (r (128))) flX12_113 (by decide) rfl rfl dX12_block_14 ?_
      refine lv_iload_n C.1 C.2.1 dX12_block_17 rfl (lv_at hl 2 rfl) ?_
      refine lv_iconst (v := 4) C.1 C.2.1 dX12_block_18 (by decide) ?_
      refine lv_iload_n C.1 C.2.1 dX12_block_19 rfl (lv_at hl 0 rfl) ?_
      refine lv_imul C.1 C.2.1 dX12_block_20 ?_
      refine m_i (y := nI (4 * t)) (pk_mul 4 t) ?_
      refine lv_iadd C.1 C.2.1 dX12_block_21 ?_
      refine m_i (y := nI (p1 + (4 * t))) (nI_add p1 (4 * t)) ?_
      refine m_bald C w (k := 128) (i := p1 + (4 * t)) (n := 1300) (wr := true) (by decide) rfl (by omega) (by decide) dX12_block_22 ?_
      refine lv_sipush (v := 255) C.1 C.2.1 dX12_block_23 (by decide) ?_
      refine lv_iand C.1 C.2.1 dX12_block_26 ?_
      refine lv_bipush (v := 24) C.1 C.2.1 dX12_block_27 (by decide) ?_
      refine lv_ishl C.1 C.2.1 dX12_block_29 ?_
      refine lv_aload_n C.1 C.2.1 dX12_block_30 rfl (lv_at hl 1 rfl) ?_
      refine m_get C w (k := 117) (j := 12) (v := .ref (r (128))) flX12_113 (by decide) rfl rfl dX12_block_31 ?_
      refine lv_iload_n C.1 C.2.1 dX12_block_34 rfl (lv_at hl 2 rfl) ?_
      refine lv_iconst (v := 4) C.1 C.2.1 dX12_block_35 (by decide) ?_
      refine lv_iload_n C.1 C.2.1 dX12_block_36 rfl (lv_at hl 0 rfl) ?_
      refine lv_imul C.1 C.2.1 dX12_block_37 ?_
      refine m_i (y := nI (4 * t)) (pk_mul 4 t) ?_
      refine lv_iadd C.1 C.2.1 dX12_block_38 ?_
      refine m_i (y := nI (p1 + (4 * t))) (nI_add p1 (4 * t)) ?_
      refine lv_iconst (v := 1) C.1 C.2.1 dX12_block_39 (by decide) ?_
      refine lv_iadd C.1 C.2.1 dX12_block_40 ?_
      refine m_i (y := nI (p1 + (4 * t) + 1)) (nI_add (p1 + (4 * t)) 1) ?_
      refine m_bald C w (k := 128) (i := p1 + (4 * t) + 1) (n := 1300) (wr := true) (by decide) rfl (by omega) (by decide) dX12_block_41 ?_
      refine lv_sipush (v := 255) C.1 C.2.1 dX12_block_42 (by decide) ?_
      refine lv_iand C.1 C.2.1 dX12_block_45 ?_
      refine lv_bipush (v := 16) C.1 C.2.1 dX12_block_46 (by decide) ?_
      refine lv_ishl C.1 C.2.1 dX12_block_48 ?_
      refine lv_ior C.1 C.2.1 dX12_block_49 ?_
      refine lv_aload_n C.1 C.2.1 dX12_block_50 rfl (lv_at hl 1 rfl) ?_
      refine m_get C w (k := 117) (j := 12) (v := .ref (r (128))) flX12_113 (by decide) rfl rfl dX12_block_51 ?_
      refine lv_iload_n C.1 C.2.1 dX12_block_54 rfl (lv_at hl 2 rfl) ?_
      refine lv_iconst (v := 4) C.1 C.2.1 dX12_block_55 (by decide) ?_
      refine lv_iload_n C.1 C.2.1 dX12_block_56 rfl (lv_at hl 0 rfl) ?_
      refine lv_imul C.1 C.2.1 dX12_block_57 ?_
      refine m_i (y := nI (4 * t)) (pk_mul 4 t) ?_
      refine lv_iadd C.1 C.2.1 dX12_block_58 ?_
      refine m_i (y := nI (p1 + (4 * t))) (nI_add p1 (4 * t)) ?_
      refine lv_iconst (v := 2) C.1 C.2.1 dX12_block_59 (by decide) ?_
      refine lv_iadd C.1 C.2.1 dX12_block_60 ?_
      refine m_i (y := nI (p1 + (4 * t) + 2)) (nI_add (p1 + (4 * t)) 2) ?_
      refine m_bald C w (k := 128) (i := p1 + (4 * t) + 2) (n := 1300) (wr := true) (by decide) rfl (by omega) (by decide) dX12_block_61 ?_
      refine lv_sipush (v := 255) C.1 C.2.1 dX12_block_62 (by decide) ?_
      refine lv_iand C.1 C.2.1 dX12_block_65 ?_
      refine lv_bipush (v := 8) C.1 C.2.1 dX12_block_66 (by decide) ?_
      refine lv_ishl C.1 C.2.1 dX12_block_68 ?_
      refine lv_ior C.1 C.2.1 dX12_block_69 ?_
      refine lv_aload_n C.1 C.2.1 dX12_block_70 rfl (lv_at hl 1 rfl) ?_
      refine m_get C w (k := 117) (j := 12) (v := .ref (r (128))) flX12_113 (by decide) rfl rfl dX12_block_71 ?_
      refine lv_iload_n C.1 C.2.1 dX12_block_74 rfl (lv_at hl 2 rfl) ?_
      refine lv_iconst (v := 4) C.1 C.2.1 dX12_block_75 (by decide) ?_
      refine lv_iload_n C.1 C.2.1 dX12_block_76 rfl (lv_at hl 0 rfl) ?_
      refine lv_imul C.1 C.2.1 dX12_block_77 ?_
      refine m_i (y := nI (4 * t)) (pk_mul 4 t) ?_
      refine lv_iadd C.1 C.2.1 dX12_block_78 ?_
      refine m_i (y := nI (p1 + (4 * t))) (nI_add p1 (4 * t)) ?_
      refine lv_iconst (v := 3) C.1 C.2.1 dX12_block_79 (by decide) ?_
      refine lv_iadd C.1 C.2.1 dX12_block_80 ?_
      refine m_i (y := nI (p1 + (4 * t) + 3)) (nI_add (p1 + (4 * t)) 3) ?_
      refine m_bald C w (k := 128) (i := p1 + (4 * t) + 3) (n := 1300) (wr := true) (by decide) rfl (by omega) (by decide) dX12_block_81 ?_
      refine lv_sipush (v := 255) C.1 C.2.1 dX12_block_82 (by decide) ?_
      refine lv_iand C.1 C.2.1 dX12_block_85 ?_
      refine lv_ior C.1 C.2.1 dX12_block_86 ?_
      refine m_iast C w (k := 125) (i := t) (n := 64) (x := ((((((M_43.1 128 (p1 + (4 * t))) &&& (255 : Int32)) <<< ((24 : Int32) &&& 31)) ||| (((M_43.1 128 (p1 + (4 * t) + 1)) &&& (255 : Int32)) <<< ((16 : Int32) &&& 31))) ||| (((M_43.1 128 (p1 + (4 * t) + 2)) &&& (255 : Int32)) <<< ((8 : Int32) &&& 31))) ||| ((M_43.1 128 (p1 + (4 * t) + 3)) &&& (255 : Int32)))) (by decide) rfl (by omega) (by decide) dX12_block_87 (fun H locs w => ?_)
      obtain ⟨M_45, eM_45⟩ : ∃ zz, zz = mm_w M_43 125 t ((((((M_43.1 128 (p1 + (4 * t))) &&& (255 : Int32)) <<< ((24 : Int32) &&& 31)) ||| (((M_43.1 128 (p1 + (4 * t) + 1)) &&& (255 : Int32)) <<< ((16 : Int32) &&& 31))) ||| (((M_43.1 128 (p1 + (4 * t) + 2)) &&& (255 : Int32)) <<< ((8 : Int32) &&& 31))) ||| ((M_43.1 128 (p1 + (4 * t) + 3)) &&& (255 : Int32))) := ⟨_, rfl⟩
      rw [← eM_45] at w
      refine lv_iinc (v := (nI (t + 1))) (lv' := [(2, .int (nI (t + 1))), (0, .ref (r (117))), (1, .int (nI (p1)))]) C.1 C.2.1 dX12_block_88 hl (k := 0) rfl (nI_add t 1) (by decide) rfl (fun ls hl => ?_)
      refine lv_goto (tgt := 2) C.1 C.2.1 dX12_block_91 (by decide) ?_
      have h9 : lv_has ls 6 [(2, .int (nI (t + 1))), (0, .ref (r (117))), (1, .int (nI (p1)))] := lv_sub hl [0, 1, 2] rfl
      have hlZ : lv_has ls 6 [(2, .int (nI (t + 1))), (0, .ref (r (117))), (1, .int (nI (p1)))] := h9
      have wZ := w
      subst eM_43 eM_45
      refine ih (t + 1) (by omega) _ _ _ (wZ) ?_
      exact hlZ
  exact loop 16 0 (by omega) _ _ ls w hl
