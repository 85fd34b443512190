def f_X0_begin (k1 : Nat) (v1 : Int64) (M : mm_M) : mm_M :=
  let M_1 := f_X2_begin k1 (v1) M
  let M_2 := f_X2_nextBlock M_1
  let M_3 := f_X6_begin 33 M_2
  M_3
theorem w_f_X0_begin (k1 : Nat) (v1 : Int64) (M : mm_M) : mm_fr [34, 35, 33, 37, 40, 38] M (f_X0_begin k1 v1 M) := by
  unfold f_X0_begin
  exact ((w_f_X6_begin _ _).on (by simp) ((w_f_X2_nextBlock _).on (by simp) ((w_f_X2_begin _ _ _).on (by simp) (mm_fr_refl _ _))))
set_option maxHeartbeats 4000000 in
set_option maxRecDepth 100000 in
theorem c_X0_begin (l : Launch) (D : va_G) (b0 : Nat) (r : Nat → Nat) (M : mm_M) (k1 : Nat) (v1 : Int64) {n1 : Nat} {w1 : Bool} (hk1 : k1 < 181) (hs1 : mm_sh k1 = .inl (.byte, n1, w1)) (hn1 : n1 < 2 ^ 31) (hp1 : 32 ≤ n1) : mm_Mv l yX0_begin cX0_begin 4 2 69 D b0 r [.ref (r (31)), .ref (r (k1)), .long (v1)] M (fun M' => M' = f_X0_begin k1 v1 M) := by
  refine mm_enter (cc := cX0_begin) (nL := 4) (ret := none) (by decide) (Nat.le_of_ble_eq_true rfl) ?_
  intro p e s m args below meth c C w ls hl
  have hl : lv_has ls 4 [(0, .ref (r (31))), (1, .ref (r (k1))), (2, .long (v1))] := hl
  refine lv_aload_n C.1 C.2.1 dX0_begin_0 rfl (lv_at hl 0 rfl) ?_
  refine m_get C w (k := 31) (j := 0) (v := .ref (r (32))) flX0_12 (by decide) rfl rfl dX0_begin_1 ?_
  refine lv_aload_n C.1 C.2.1 dX0_begin_4 rfl (lv_at hl 1 rfl) ?_
  refine lv_lload_n C.1 C.2.1 dX0_begin_5 rfl (lv_at hl 2 rfl) ?_
  refine m_cvv C w hl cvX0_33 (k := 32) (by decide) rfl (q := (RX2, TX2, 3)) rfl rfl (As := [.ref (r (k1)), .long (v1)]) (rest := []) (c_X2_begin l D b0 r M k1 (v1) hk1 hs1 hn1 (by omega)) rfl rfl (Nat.le_of_ble_eq_true rfl) ⟨Nat.le_of_ble_eq_true rfl, Nat.le_of_ble_eq_true rfl⟩ ⟨Nat.zero_le _, Nat.zero_le _⟩ dX0_begin_6 (fun M_1 H locs eM_1 w => ?_)
  refine lv_aload_n C.1 C.2.1 dX0_begin_9 rfl (lv_at hl 0 rfl) ?_
  refine m_get C w (k := 31) (j := 0) (v := .ref (r (32))) flX0_12 (by decide) rfl rfl dX0_begin_10 ?_
  refine m_cvv C w hl cvX0_37 (k := 32) (by decide) rfl (q := (RX2, TX2, 3)) rfl rfl (As := []) (rest := []) (c_X2_nextBlock l D b0 r M_1  ) rfl rfl (Nat.le_of_ble_eq_true rfl) ⟨Nat.le_of_ble_eq_true rfl, Nat.le_of_ble_eq_true rfl⟩ ⟨Nat.zero_le _, Nat.zero_le _⟩ dX0_begin_13 (fun M_2 H locs eM_2 w => ?_)
  refine lv_aload_n C.1 C.2.1 dX0_begin_16 rfl (lv_at hl 0 rfl) ?_
  refine m_get C w (k := 31) (j := 1) (v := .ref (r (36))) flX0_21 (by decide) rfl rfl dX0_begin_17 ?_
  refine lv_aload_n C.1 C.2.1 dX0_begin_20 rfl (lv_at hl 0 rfl) ?_
  refine m_get C w (k := 31) (j := 0) (v := .ref (r (32))) flX0_12 (by decide) rfl rfl dX0_begin_21 ?_
  refine m_get C w (k := 32) (j := 0) (v := .ref (r (33))) flX0_40 (by decide) rfl rfl dX0_begin_24 ?_
  refine m_cvv C w hl cvX0_43 (k := 36) (by decide) rfl (q := (RX6, TX6, 4)) rfl rfl (As := [.ref (r (33))]) (rest := []) (c_X6_begin l D b0 r M_2 33 (by decide) rfl (by decide) (by omega)) rfl rfl (Nat.le_of_ble_eq_true rfl) ⟨Nat.le_of_ble_eq_true rfl, Nat.le_of_ble_eq_true rfl⟩ ⟨Nat.zero_le _, Nat.zero_le _⟩ dX0_begin_27 (fun M_3 H locs eM_3 w => ?_)
  exact m_vret C w (by subst eM_1 eM_2 eM_3; exact Eq.symm (rfl)) dX0_begin_30

def f_X0_associate (k1 : Nat) (p1 : Nat) (M : mm_M) : mm_M :=
  let M_1 := f_X6_absorb k1 0 p1 M
  let M_2 := mm_w M_1 31 3 (nI (p1))
  M_2
theorem w_f_X0_associate (k1 : Nat) (p1 : Nat) (M : mm_M) : mm_fr [38, 39, 31] M (f_X0_associate k1 p1 M) := by
  unfold f_X0_associate
  exact (mm_fr_w (by simp) ((w_f_X6_absorb _ _ _ _).on (by simp) (mm_fr_refl _ _)))
set_option maxHeartbeats 4000000 in
set_option maxRecDepth 100000 in
theorem c_X0_associate (l : Launch) (D : va_G) (b0 : Nat) (r : Nat → Nat) (M : mm_M) (k1 : Nat) (p1 : Nat) {n1 : Nat} {w1 : Bool} (hk1 : k1 < 181) (hs1 : mm_sh k1 = .inl (.byte, n1, w1)) (hn1 : n1 < 2 ^ 31) (hp1 : p1 ≤ n1) (hp2 : n1 < 2 ^ 30) : mm_Mv l yX0_associate cX0_associate 3 3 98 D b0 r [.ref (r (31)), .ref (r (k1)), .int (nI (p1))] M (fun M' => M' = f_X0_associate k1 p1 M) := by
  refine mm_enter (cc := cX0_associate) (nL := 3) (ret := none) (by decide) (Nat.le_of_ble_eq_true rfl) ?_
  intro p e s m args below meth c C w ls hl
  have hl : lv_has ls 3 [(0, .ref (r (31))), (1, .ref (r (k1))), (2, .int (nI (p1)))] := hl
  refine lv_aload_n C.1 C.2.1 dX0_associate_0 rfl (lv_at hl 0 rfl) ?_
  refine m_get C w (k := 31) (j := 1) (v := .ref (r (36))) flX0_21 (by decide) rfl rfl dX0_associate_1 ?_
  refine lv_aload_n C.1 C.2.1 dX0_associate_4 rfl (lv_at hl 1 rfl) ?_
  refine lv_iconst (v := 0) C.1 C.2.1 dX0_associate_5 (by decide) ?_
  refine lv_iload_n C.1 C.2.1 dX0_associate_6 rfl (lv_at hl 2 rfl) ?_
  refine m_cvv C w hl cvX0_46 (k := 36) (by decide) rfl (q := (RX6, TX6, 4)) rfl rfl (As := [.ref (r (k1)), .int 0, .int (nI (p1))]) (rest := []) (c_X6_absorb l D b0 r M k1 0 p1 hk1 hs1 hn1 (by omega) (by omega)) rfl rfl (Nat.le_of_ble_eq_true rfl) ⟨Nat.le_of_ble_eq_true rfl, Nat.le_of_ble_eq_true rfl⟩ ⟨Nat.zero_le _, Nat.zero_le _⟩ dX0_associate_7 (fun M_1 H locs eM_1 w => ?_)
  refine lv_aload_n C.1 C.2.1 dX0_associate_10 rfl (lv_at hl 0 rfl) ?_
  refine lv_iload_n C.1 C.2.1 dX0_associate_11 rfl (lv_at hl 2 rfl) ?_
  refine m_puti C w (k := 31) (j := 3) (x := (nI (p1))) rfl flX0_29w (by decide) rfl rfl dX0_associate_12 (fun H locs w => ?_)
  obtain ⟨M_2, eM_2⟩ : ∃ zz, zz = mm_w M_1 31 3 (nI (p1)) := ⟨_, rfl⟩
  rw [← eM_2] at w
  exact m_vret C w (by subst eM_1 eM_2; exact Eq.symm (rfl)) dX0_associate_15

def f_X0_applyStream_B1 (k1 : Nat) (p1 : Nat) (k2 : Nat) (p3 : Nat) (t : Nat) (M_3 : mm_M) : mm_M :=
  if ¬ (t % 64) = 0 then (let M_6 := mm_w M_3 k2 (p3 + t) (mm_b ((M_3.1 k1 (p1 + t)) ^^^ (M_3.1 33 (t % 64))))
  M_6) else (let M_7 := f_X2_nextBlock M_3
  let M_8 := mm_w M_7 k2 (p3 + t) (mm_b ((M_7.1 k1 (p1 + t)) ^^^ (M_7.1 33 (t % 64))))
  M_8)
theorem w_f_X0_applyStream_B1 (k1 : Nat) (p1 : Nat) (k2 : Nat) (p3 : Nat) (t : Nat) (M_3 : mm_M) : mm_fr [k2, 35, 34, 33] M_3 (f_X0_applyStream_B1 k1 p1 k2 p3 t M_3) := by
  unfold f_X0_applyStream_B1
  exact (mm_fr_ite (fun _ => (mm_fr_w (by simp) (mm_fr_refl _ _))) (fun _ => (mm_fr_w (by simp) ((w_f_X2_nextBlock _).on (by simp) (mm_fr_refl _ _)))))
def f_X0_applyStream_L3 (k1 : Nat) (p1 : Nat) (k2 : Nat) (p3 : Nat) (σ : mm_M) : Nat → mm_M
  | 0 => σ
  | t + 1 =>
  let M_3 := f_X0_applyStream_L3 k1 p1 k2 p3 σ t
  f_X0_applyStream_B1 k1 p1 k2 p3 t M_3
theorem w_f_X0_applyStream_L3 (k1 : Nat) (p1 : Nat) (k2 : Nat) (p3 : Nat) (σ : mm_M) : ∀ t : Nat, mm_fr [k2, 35, 34, 33] σ (f_X0_applyStream_L3 k1 p1 k2 p3 σ t)
  | 0 => mm_fr_refl _ _
  | t + 1 => have ih := w_f_X0_applyStream_L3 k1 p1 k2 p3 σ t
    ((w_f_X0_applyStream_B1 _ _ _ _ _ _).on (by simp) ih)
def f_X0_applyStream (k1 : Nat) (p1 : Nat) (p2 : Nat) (k2 : Nat) (p3 : Nat) (M : mm_M) : mm_M :=
  let M_1 := f_X0_applyStream_L3 k1 p1 k2 p3 M p2
  M_1
theorem w_f_X0_applyStream (k1 : Nat) (p1 : Nat) (p2 : Nat) (k2 : Nat) (p3 : Nat) (M : mm_M) : mm_fr [k2, 35, 34, 33] M (f_X0_applyStream k1 p1 p2 k2 p3 M) := by
  unfold f_X0_applyStream
  exact ((w_f_X0_applyStream_L3 _ _ _ _ _ p2).on (by simp) (mm_fr_refl _ _))
set_option maxHeartbeats 4000000 in
set_option maxRecDepth 100000 in
theorem c_X0_applyStream (l : Launch) (D : va_G) (b0 : Nat) (r : Nat → Nat) (M : mm_M) (k1 : Nat) (p1 : Nat) (p2 : Nat) (k2 : Nat) (p3 : Nat) {n1 : Nat} {w1 : Bool} (hk1 : k1 < 181) (hs1 : mm_sh k1 = .inl (.byte, n1, w1)) (hn1 : n1 < 2 ^ 31) (hp1 : p1 + p2 ≤ n1) (hp2 : n1 < 2 ^ 30) {n2 : Nat} (hk2 : k2 < 173) (hs2 : mm_sh k2 = .inl (.byte, n2, true)) (hn2 : n2 < 2 ^ 31) (hp3 : p3 + p2 ≤ n2) (hp4 : n2 < 2 ^ 30) : mm_Mv l yX0_applyStream cX0_applyStream 8 2 69 D b0 r [.ref (r (31)), .ref (r (k1)), .int (nI (p1)), .int (nI (p2)), .ref (r (k2)), .int (nI (p3))] M (fun M' => M' = f_X0_applyStream k1 p1 p2 k2 p3 M) := by
  refine mm_enter (cc := cX0_applyStream) (nL := 8) (ret := none) (by decide) (Nat.le_of_ble_eq_true rfl) ?_
  intro p e s m args below meth c C w ls hl
  have hl : lv_has ls 8 [(0, .ref (r (31))), (1, .ref (r (k1))), (2, .int (nI (p1))), (3, .int (nI (p2))), (4, .ref (r (k2))), (5, .int (nI (p3)))] := hl
  refine lv_iconst (v := 0) C.1 C.2.1 dX0_applyStream_0 (by decide) ?_
  refine lv_istore (lv' := [(6, .int 0), (0, .ref (r (31))), (1, .ref (r (k1))), (2, .int (nI (p1))), (3, .int (nI (p2))), (4, .ref (r (k2))), (5, .int (nI (p3)))]) C.1 C.2.1 dX0_applyStream_1 hl (by decide) rfl (fun ls hl => ?_)
  have loop : ∀ (k t : Nat), t + k = p2 → ∀ (H : Heap) (locs : List Loc) (ls : Array Slot), mm_W D b0 r (f_X0_applyStream_L3 k1 p1 k2 p3 M t) s H locs → lv_has ls 8 [(6, .int (nI (t))), (0, .ref (r (31))), (1, .ref (r (k1))), (2, .int (nI (p1))), (3, .int (nI (p2))), (4, .ref (r (k2))), (5, .int (nI (p3)))] → W p l e (mm_rm 2 69) s m args below meth c H locs 0 0 (MQ below (va_Qv (fun M' => M' = f_X0_applyStream k1 p1 p2 k2 p3 M) (mm_U D b0 r) (fun q => b0 ≤ q)) args s 0 0 (fun q => b0 ≤ q)) (F0 m 3 ls []) := by
    intro k
    induction k with
    | zero =>
      intro t ht H locs ls w hl
      obtain rfl : p2 = t := by omega
      obtain ⟨M_1, eM_1⟩ : ∃ zz, zz = f_X0_applyStream_L3 k1 p1 k2 p3 M p2 := ⟨_, rfl⟩
      rw [← eM_1] at w
      refine lv_iload C.1 C.2.1 dX0_applyStream_3 (lv_at hl 0 rfl) ?_
      refine lv_iload_n C.1 C.2.1 dX0_applyStream_5 rfl (lv_at hl 4 rfl) ?_
      refine m_icmp_ge (tgt := 60) (a := p2) (b := p2) C (by omega) (by omega) dX0_applyStream_6 (by decide) (fun _ => ?_) (fun h_2 => absurd h_2 (by omega))
      exact m_vret C w (by subst eM_1; exact Eq.symm (rfl)) dX0_applyStream_60
    | succ k ih =>
      intro t ht H locs ls w hl
      obtain ⟨M_3, eM_3⟩ : ∃ zz, zz = f_X0_applyStream_L3 k1 p1 k2 p3 M t := ⟨_, rfl⟩
      rw [← eM_3] at w
      refine lv_iload C.1 C.2.1 dX0_applyStream_3 (lv_at hl 0 rfl) ?_
      refine lv_iload_n C.1 C.2.1 dX0_applyStream_5 rfl (lv_at hl 4 rfl) ?_
      refine m_icmp_ge (tgt := 60) (a := t) (b := p2) C (by omega) (by omega) dX0_applyStream_6 (by decide) (fun h_4 => absurd h_4 (by omega)) (fun _ => ?_)
      refine lv_iload C.1 C.2.1 dX0_applyStream_9 (lv_at hl 0 rfl) ?_
      refine lv_bipush (v := 63) C.1 C.2.1 dX0_applyStream_11 (by decide) ?_
      refine lv_iand C.1 C.2.1 dX0_applyStream_13 ?_
      refine m_i (y := nI (t % 64)) (pk_andN (n := t) (by omega) 6 (by decide)) ?_
      refine lv_istore (lv' := [(7, .int (nI (t % 64))), (6, .int (nI (t))), (0, .ref (r (31))), (1, .ref (r (k1))), (2, .int (nI (p1))), (3, .int (nI (p2))), (4, .ref (r (k2))), (5, .int (nI (p3)))]) C.1 C.2.1 dX0_applyStream_14 hl (by decide) rfl (fun ls hl => ?_)
      refine lv_iload C.1 C.2.1 dX0_applyStream_16 (lv_at hl 0 rfl) ?_
      refine m_if_ne (tgt := 28) (a := t % 64) C (by omega) dX0_applyStream_18 (by decide) (fun h_5 => ?_) (fun h_5 => ?_)
      · refine lv_aload C.1 C.2.1 dX0_applyStream_28 (lv_at hl 6 rfl) ?_
        refine lv_iload C.1 C.2.1 dX0_applyStream_30 (lv_at hl 7 rfl) ?_
        refine lv_iload C.1 C.2.1 dX0_applyStream_32 (lv_at hl 1 rfl) ?_
        refine lv_iadd C.1 C.2.1 dX0_applyStream_34 ?_
        refine m_i (y := nI (p3 + t)) (nI_add p3 t) ?_
        refine lv_aload_n C.1 C.2.1 dX0_applyStream_35 rfl (lv_at hl 3 rfl) ?_
        refine lv_iload_n C.1 C.2.1 dX0_applyStream_36 rfl (lv_at hl 4 rfl) ?_
        refine lv_iload C.1 C.2.1 dX0_applyStream_37 (lv_at hl 1 rfl) ?_
        refine lv_iadd C.1 C.2.1 dX0_applyStream_39 ?_
        refine m_i (y := nI (p1 + t)) (nI_add p1 t) ?_
        refine m_bald C w (k := k1) (i := p1 + t) (n := n1) (wr := w1) hk1 hs1 (by omega) hn1 dX0_applyStream_40 ?_
        refine lv_aload_n C.1 C.2.1 dX0_applyStream_41 rfl (lv_at hl 2 rfl) ?_
        refine m_get C w (k := 31) (j := 0) (v := .ref (r (32))) flX0_12 (by decide) rfl rfl dX0_applyStream_42 ?_
        refine m_get C w (k := 32) (j := 0) (v := .ref (r (33))) flX0_40 (by decide) rfl rfl dX0_applyStream_45 ?_
        refine lv_iload C.1 C.2.1 dX0_applyStream_48 (lv_at hl 0 rfl) ?_
        refine m_bald C w (k := 33) (i := t % 64) (n := 64) (wr := true) (by decide) rfl (by omega) (by decide) dX0_applyStream_50 ?_
        refine lv_ixor C.1 C.2.1 dX0_applyStream_51 ?_
        refine lv_i2b (v := mm_b ((M_3.1 k1 (p1 + t)) ^^^ (M_3.1 33 (t % 64)))) C.1 C.2.1 dX0_applyStream_52 rfl ?_
        refine m_bast C w (k := k2) (i := p3 + t) (n := n2) (x := (mm_b ((M_3.1 k1 (p1 + t)) ^^^ (M_3.1 33 (t % 64))))) hk2 hs2 (by omega) hn2 (mm_bb _) dX0_applyStream_53 (fun H locs w => ?_)
        obtain ⟨M_6, eM_6⟩ : ∃ zz, zz = mm_w M_3 k2 (p3 + t) (mm_b ((M_3.1 k1 (p1 + t)) ^^^ (M_3.1 33 (t % 64)))) := ⟨_, rfl⟩
        rw [← eM_6] at w
        refine lv_iinc (v := (nI (t + 1))) (lv' := [(6, .int (nI (t + 1))), (7, .int (nI (t % 64))), (0, .ref (r (31))), (1, .ref (r (k1))), (2, .int (nI (p1))), (3, .int (nI (p2))), (4, .ref (r (k2))), (5, .int (nI (p3)))]) C.1 C.2.1 dX0_applyStream_54 hl (k := 1) rfl (nI_add t 1) (by decide) rfl (fun ls hl => ?_)
        refine lv_goto (tgt := 3) C.1 C.2.1 dX0_applyStream_57 (by decide) ?_
        have h9 : lv_has ls 8 [(6, .int (nI (t + 1))), (0, .ref (r (31))), (1, .ref (r (k1))), (2, .int (nI (p1))), (3, .int (nI (p2))), (4, .ref (r (k2))), (5, .int (nI (p3)))] := lv_sub hl [0, 2, 3, 4, 5, 6, 7] rfl
        have hlZ : lv_has ls 8 [(6, .int (nI (t + 1))), (0, .ref (r (31))), (1, .ref (r (k1))), (2, .int (nI (p1))), (3, .int (nI (p2))), (4, .ref (r (k2))), (5, .int (nI (p3)))] := h9
        have wZ := w
        subst eM_3 eM_6
        refine ih (t + 1) (by omega) _ _ _ (m_w (Eq.symm (congrArg (fun z => z) (show f_X0_applyStream_L3 k1 p1 k2 p3 M (t + 1) = _ from ((if_pos h_5).trans rfl)))) wZ) ?_
        exact hlZ
      · refine lv_aload_n C.1 C.2.1 dX0_applyStream_21 rfl (lv_at hl 2 rfl) ?_
        refine m_get C w (k := 31) (j := 0) (v := .ref (r (32))) flX0_12 (by decide) rfl rfl dX0_applyStream_22 ?_
        refine m_cvv C w hl cvX0_37 (k := 32) (by decide) rfl (q := (RX2, TX2, 3)) rfl rfl (As := []) (rest := []) (c_X2_nextBlock l D b0 r M_3  ) rfl rfl (Nat.le_of_ble_eq_true rfl) ⟨Nat.le_of_ble_eq_true rfl, Nat.le_of_ble_eq_true rfl⟩ ⟨Nat.zero_le _, Nat.zero_le _⟩ dX0_applyStream_25 (fun M_7 H locs eM_7 w => ?_)
        refine lv_aload C.1 C.2.1 dX0_applyStream_28 (lv_at hl 6 rfl) ?_
        refine lv_iload C.1 C.2.1 dX0_applyStream_30 (lv_at hl 7 rfl) ?_
        refine lv_iload C.1 C.2.1 dX0_applyStream_32 (lv_at hl 1 rfl) ?_
        refine lv_iadd C.1 C.2.1 dX0_applyStream_34 ?_
        refine m_i (y := nI (p3 + t)) (nI_add p3 t) ?_
        refine lv_aload_n C.1 C.2.1 dX0_applyStream_35 rfl (lv_at hl 3 rfl) ?_
        refine lv_iload_n C.1 C.2.1 dX0_applyStream_36 rfl (lv_at hl 4 rfl) ?_
        refine lv_iload C.1 C.2.1 dX0_applyStream_37 (lv_at hl 1 rfl) ?_
        refine lv_iadd C.1 C.2.1 dX0_applyStream_39 ?_
        refine m_i (y := nI (p1 + t)) (nI_add p1 t) ?_
        refine m_bald C w (k := k1) (i := p1 + t) (n := n1) (wr := w1) hk1 hs1 (by omega) hn1 dX0_applyStream_40 ?_
        refine lv_aload_n C.1 C.2.1 dX0_applyStream_41 rfl (lv_at hl 2 rfl) ?_
        refine m_get C w (k := 31) (j := 0) (v := .ref (r (32))) flX0_12 (by decide) rfl rfl dX0_applyStream_42 ?_
        refine m_get C w (k := 32) (j := 0) (v := .ref (r (33))) flX0_40 (by decide) rfl rfl dX0_applyStream_45 ?_
        refine lv_iload C.1 C.2.1 dX0_applyStream_48 (lv_at hl 0 rfl) ?_
        refine m_bald C w (k := 33) (i := t % 64) (n := 64) (wr := true) (by decide) rfl (by omega) (by decide) dX0_applyStream_50 ?_
        refine lv_ixor C.1 C.2.1 dX0_applyStream_51 ?_
        refine lv_i2b (v := mm_b ((M_7.1 k1 (p1 + t)) ^^^ (M_7.1 33 (t % 64)))) C.1 C.2.1 dX0_applyStream_52 rfl ?_
        refine m_bast C w (k := k2) (i := p3 + t) (n := n2) (x := (mm_b ((M_7.1 k1 (p1 + t)) ^^^ (M_7.1 33 (t % 64))))) hk2 hs2 (by omega) hn2 (mm_bb _) dX0_applyStream_53 (fun H locs w => ?_)
        obtain ⟨M_8, eM_8⟩ : ∃ zz, zz = mm_w M_7 k2 (p3 + t) (mm_b ((M_7.1 k1 (p1 + t)) ^^^ (M_7.1 33 (t % 64)))) := ⟨_, rfl⟩
        rw [← eM_8] at w
        refine lv_iinc (v := (nI (t + 1))) (lv' := [(6, .int (nI (t + 1))), (7, .int (nI (t % 64))), (0, .ref (r (31))), (1, .ref (r (k1))), (2, .int (nI (p1))), (3, .int (nI (p2))), (4, .ref (r (k2))), (5, .int (nI (p3)))]) C.1 C.2.1 dX0_applyStream_54 hl (k := 1) rfl (nI_add t 1) (by decide) rfl (fun ls hl => ?_)
        refine lv_goto (tgt := 3) C.1 C.2.1 dX0_applyStream_57 (by decide) ?_
        have h9 : lv_has ls 8 [(6, .int (nI (t + 1))), (0, .ref (r (31))), (1, .ref (r (k1))), (2, .int (nI (p1))), (3, .int (nI (p2))), (4, .ref (r (k2))), (5, .int (nI (p3)))] := lv_sub hl [0, 2, 3, 4, 5, 6, 7] rfl
        have hlZ : lv_has ls 8 [(6, .int (nI (t + 1))), (0, .ref (r (31))), (1, .ref (r (k1))), (2, .int (nI (p1))), (3, .int (nI (p2))), (4, .ref (r (k2))), (5, .int (nI (p3)))] := h9
        have wZ := w
        subst eM_3 eM_7 eM_8
        refine ih (t + 1) (by omega) _ _ _ (m_w (Eq.symm (congrArg (fun z => z) (show f_X0_applyStream_L3 k1 p1 k2 p3 M (t + 1) = _ from ((if_neg (fun q => q h_5)).trans rfl)))) wZ) ?_
        exact hlZ
  exact loop p2 0 (by omega) _ _ ls w hl

def f_X0_encrypt (k1 : Nat) (p1 : Nat) (p2 : Nat) (k2 : Nat) (p3 : Nat) (M : mm_M) : mm_M :=
  let M_1 := f_X0_applyStream k1 p1 p2 k2 p3 M
  let M_2 := f_X6_absorb k2 p3 p2 M_1
  let M_3 := f_X6_finish (M_2.1 31 3) (nI (p2)) 41 M_2
  let M_4 := mm_cp M_3 41 0 k2 (p3 + p2) 16
  M_4
theorem w_f_X0_encrypt (k1 : Nat) (p1 : Nat) (p2 : Nat) (k2 : Nat) (p3 : Nat) (M : mm_M) : mm_fr [k2, 35, 34, 33, 38, 39, 41] M (f_X0_encrypt k1 p1 p2 k2 p3 M) := by
  unfold f_X0_encrypt
  exact (mm_fr_cp (by simp) ((w_f_X6_finish _ _ _ _).on (by simp) ((w_f_X6_absorb _ _ _ _).on (by simp) ((w_f_X0_applyStream _ _ _ _ _ _).on (by simp) (mm_fr_refl _ _)))))
set_option maxHeartbeats 4000000 in
set_option maxRecDepth 100000 in
theorem c_X0_encrypt (l : Launch) (D : va_G) (b0 : Nat) (r : Nat → Nat) (M : mm_M) (k1 : Nat) (p1 : Nat) (p2 : Nat) (k2 : Nat) (p3 : Nat) {n1 : Nat} {w1 : Bool} (hk1 : k1 < 181) (hs1 : mm_sh k1 = .inl (.byte, n1, w1)) (hn1 : n1 < 2 ^ 31) (hp1 : p1 + p2 ≤ n1) (hp2 : n1 < 2 ^ 30) {n2 : Nat} (hk2 : k2 < 173) (hs2 : mm_sh k2 = .inl (.byte, n2, true)) (hn2 : n2 < 2 ^ 31) (hp3 : p3 + p2 + 16 ≤ n2) (hp4 : n2 < 2 ^ 30) : mm_Mv l yX0_encrypt cX0_encrypt 6 3 98 D b0 r [.ref (r (31)), .ref (r (k1)), .int (nI (p1)), .int (nI (p2)), .ref (r (k2)), .int (nI (p3))] M (fun M' => M' = f_X0_encrypt k1 p1 p2 k2 p3 M) := by
  refine mm_enter (cc := cX0_encrypt) (nL := 6) (ret := none) (by decide) (Nat.le_of_ble_eq_true rfl) ?_
  intro p e s m args below meth c C w ls hl
  have hl : lv_has ls 6 [(0, .ref (r (31))), (1, .ref (r (k1))), (2, .int (nI (p1))), (3, .int (nI (p2))), (4, .ref (r (k2))), (5, .int (nI (p3)))] := hl
  refine lv_aload_n C.1 C.2.1 dX0_encrypt_0 rfl (lv_at hl 0 rfl) ?_
  refine lv_aload_n C.1 C.2.1 dX0_encrypt_1 rfl (lv_at hl 1 rfl) ?_
  refine lv_iload_n C.1 C.2.1 dX0_encrypt_2 rfl (lv_at hl 2 rfl) ?_
  refine lv_iload_n C.1 C.2.1 dX0_encrypt_3 rfl (lv_at hl 3 rfl) ?_
  refine lv_aload C.1 C.2.1 dX0_encrypt_4 (lv_at hl 4 rfl) ?_
  refine lv_iload C.1 C.2.1 dX0_encrypt_6 (lv_at hl 5 rfl) ?_
  refine m_cvv C w hl cvX0_50 (k := 31) (by decide) rfl (q := (RX0, TX0, 4)) rfl rfl (As := [.ref (r (k1)), .int (nI (p1)), .int (nI (p2)), .ref (r (k2)), .int (nI (p3))]) (rest := []) (c_X0_applyStream l D b0 r M k1 p1 p2 k2 p3 hk1 hs1 hn1 (by omega) (by omega) hk2 hs2 hn2 (by omega) (by omega)) rfl rfl (Nat.le_of_ble_eq_true rfl) ⟨Nat.le_of_ble_eq_true rfl, Nat.le_of_ble_eq_true rfl⟩ ⟨Nat.zero_le _, Nat.zero_le _⟩ dX0_encrypt_8 (fun M_1 H locs eM_1 w => ?_)
  refine lv_aload_n C.1 C.2.1 dX0_encrypt_11 rfl (lv_at hl 0 rfl) ?_
  refine m_get C w (k := 31) (j := 1) (v := .ref (r (36))) flX0_21 (by decide) rfl rfl dX0_encrypt_12 ?_
  refine lv_aload C.1 C.2.1 dX0_encrypt_15 (lv_at hl 4 rfl) ?_
  refine lv_iload C.1 C.2.1 dX0_encrypt_17 (lv_at hl 5 rfl) ?_
  refine lv_iload_n C.1 C.2.1 dX0_encrypt_19 rfl (lv_at hl 3 rfl) ?_
  refine m_cvv C w hl cvX0_46 (k := 36) (by decide) rfl (q := (RX6, TX6, 4)) rfl rfl (As := [.ref (r (k2)), .int (nI (p3)), .int (nI (p2))]) (rest := []) (c_X6_absorb l D b0 r M_1 k2 p3 p2 (Nat.lt_trans hk2 (by decide)) hs2 hn2 (by omega) (by omega)) rfl rfl (Nat.le_of_ble_eq_true rfl) ⟨Nat.le_of_ble_eq_true rfl, Nat.le_of_ble_eq_true rfl⟩ ⟨Nat.zero_le _, Nat.zero_le _⟩ dX0_encrypt_20 (fun M_2 H locs eM_2 w => ?_)
  refine lv_aload_n C.1 C.2.1 dX0_encrypt_23 rfl (lv_at hl 0 rfl) ?_
  refine m_get C w (k := 31) (j := 1) (v := .ref (r (36))) flX0_21 (by decide) rfl rfl dX0_encrypt_24 ?_
  refine lv_aload_n C.1 C.2.1 dX0_encrypt_27 rfl (lv_at hl 0 rfl) ?_
  refine m_get C w (k := 31) (j := 3) (v := .int (M_2.1 31 3)) flX0_29 (by decide) rfl rfl dX0_encrypt_28 ?_
  refine lv_iload_n C.1 C.2.1 dX0_encrypt_31 rfl (lv_at hl 3 rfl) ?_
  refine lv_aload_n C.1 C.2.1 dX0_encrypt_32 rfl (lv_at hl 0 rfl) ?_
  refine m_get C w (k := 31) (j := 2) (v := .ref (r (41))) flX0_25 (by decide) rfl rfl dX0_encrypt_33 ?_
  refine m_cvv C w hl cvX0_54 (k := 36) (by decide) rfl (q := (RX6, TX6, 4)) rfl rfl (As := [.int (M_2.1 31 3), .int (nI (p2)), .ref (r (41))]) (rest := []) (c_X6_finish l D b0 r M_2 (M_2.1 31 3) (nI (p2)) 41 (by decide) rfl (by decide) (by omega)) rfl rfl (Nat.le_of_ble_eq_true rfl) ⟨Nat.le_of_ble_eq_true rfl, Nat.le_of_ble_eq_true rfl⟩ ⟨Nat.zero_le _, Nat.zero_le _⟩ dX0_encrypt_36 (fun M_3 H locs eM_3 w => ?_)
  refine lv_aload_n C.1 C.2.1 dX0_encrypt_39 rfl (lv_at hl 0 rfl) ?_
  refine m_get C w (k := 31) (j := 2) (v := .ref (r (41))) flX0_25 (by decide) rfl rfl dX0_encrypt_40 ?_
  refine lv_iconst (v := 0) C.1 C.2.1 dX0_encrypt_43 (by decide) ?_
  refine lv_aload C.1 C.2.1 dX0_encrypt_44 (lv_at hl 4 rfl) ?_
  refine lv_iload C.1 C.2.1 dX0_encrypt_46 (lv_at hl 5 rfl) ?_
  refine lv_iload_n C.1 C.2.1 dX0_encrypt_48 rfl (lv_at hl 3 rfl) ?_
  refine lv_iadd C.1 C.2.1 dX0_encrypt_49 ?_
  refine m_i (y := nI (p3 + p2)) (nI_add p3 p2) ?_
  refine lv_bipush (v := 16) C.1 C.2.1 dX0_encrypt_50 (by decide) ?_
  refine m_cpb C w hl (k := 41) (k2 := k2) (sp := 0) (dp := p3 + p2) (n := 16) (by decide) rfl (by decide) hk2 hs2 hn2 acX0_58 (by omega) (by omega) (Nat.le_of_ble_eq_true rfl) (Nat.le_of_ble_eq_true rfl) dX0_encrypt_52 (fun H locs w => ?_)
  obtain ⟨M_4, eM_4⟩ : ∃ zz, zz = mm_cp M_3 41 0 k2 (p3 + p2) 16 := ⟨_, rfl⟩
  rw [← eM_4] at w
  exact m_vret C w (by subst eM_1 eM_2 eM_3 eM_4; exact Eq.symm (rfl)) dX0_encrypt_55

def f_X0_decrypt_B1 (k1 : Nat) (p1 : Nat) (p2 : Nat) (k2 : Nat) (p3 : Nat) (M_5 : mm_M) (y_6 : Int32) : Int32 × mm_M :=
  if (y_6) = (0 : Int32) then (let M_9 := f_X0_applyStream k1 p1 (p2 - 16) k2 p3 M_5
  ((1 : Int32), M_9)) else (((0 : Int32), M_5))
theorem w_f_X0_decrypt_B1 (k1 : Nat) (p1 : Nat) (p2 : Nat) (k2 : Nat) (p3 : Nat) (M_5 : mm_M) (y_6 : Int32) : mm_fr2 [k2, 35, 34, 33] M_5 (f_X0_decrypt_B1 k1 p1 p2 k2 p3 M_5 y_6) := by
  unfold f_X0_decrypt_B1
  exact (mm_fr_ite2 (fun _ => ((w_f_X0_applyStream _ _ _ _ _ _).on (by simp) (mm_fr_refl _ _)).b) (fun _ => (mm_fr_refl _ _).b))
def f_X0_decrypt_L47 (k1 : Nat) (p1 : Nat) (p2 : Nat) (M_5 : mm_M) (σ : Int32) : Nat → Int32
  | 0 => σ
  | t + 1 =>
  let y_10 := f_X0_decrypt_L47 k1 p1 p2 M_5 σ t
  let x7_12 := (y_10) ||| ((M_5.1 41 t) ^^^ (M_5.1 k1 (p1 + (p2 - 16) + t)))
  (x7_12)
def f_X0_decrypt (k1 : Nat) (p1 : Nat) (p2 : Nat) (k2 : Nat) (p3 : Nat) (M : mm_M) : Int32 × mm_M :=
  if p2 < 16 then (let x6_1 := (nI (p2)) - (16 : Int32)
  ((0 : Int32), M)) else (let M_4 := f_X6_absorb k1 p1 (p2 - 16) M
  let M_5 := f_X6_finish (M_4.1 31 3) (nI (p2 - 16)) 41 M_4
  let y_6 := f_X0_decrypt_L47 k1 p1 p2 M_5 (0 : Int32) 16
  f_X0_decrypt_B1 k1 p1 p2 k2 p3 M_5 y_6)
theorem w_f_X0_decrypt (k1 : Nat) (p1 : Nat) (p2 : Nat) (k2 : Nat) (p3 : Nat) (M : mm_M) : mm_fr2 [38, 39, 41, k2, 35, 34, 33] M (f_X0_decrypt k1 p1 p2 k2 p3 M) := by
  unfold f_X0_decrypt
  exact (mm_fr_ite2 (fun _ => (mm_fr_refl _ _).b) (fun _ => ((w_f_X0_decrypt_B1 _ _ _ _ _ _ _).on (by simp) ((w_f_X6_finish _ _ _ _).on (by simp) ((w_f_X6_absorb _ _ _ _).on (by simp) (mm_fr_refl _ _))))))
set_option maxHeartbeats 4000000 in
set_option maxRecDepth 100000 in
theorem c_X0_decrypt (l : Launch) (D : va_G) (b0 : Nat) (r : Nat → Nat) (M : mm_M) (k1 : Nat) (p1 : Nat) (p2 : Nat) (k2 : Nat) (p3 : Nat) {n1 : Nat} {w1 : Bool} (hk1 : k1 < 181) (hs1 : mm_sh k1 = .inl (.byte, n1, w1)) (hn1 : n1 < 2 ^ 31) (hp1 : p1 + p2 ≤ n1) (hp2 : n1 < 2 ^ 30) {n2 : Nat} (hk2 : k2 < 173) (hs2 : mm_sh k2 = .inl (.byte, n2, true)) (hn2 : n2 < 2 ^ 31) (hp3 : p3 + (p2 - 16) ≤ n2) (hp4 : n2 < 2 ^ 30) : mm_Mi l yX0_decrypt cX0_decrypt 9 .boolean 3 98 D b0 r [.ref (r (31)), .ref (r (k1)), .int (nI (p1)), .int (nI (p2)), .ref (r (k2)), .int (nI (p3))] M (fun v M' => (v, M') = f_X0_decrypt k1 p1 p2 k2 p3 M) := by
  refine mm_enter (cc := cX0_decrypt) (nL := 9) (ret := (some .boolean)) (by decide) (Nat.le_of_ble_eq_true rfl) ?_
  intro p e s m args below meth c C w ls hl
  have hl : lv_has ls 9 [(0, .ref (r (31))), (1, .ref (r (k1))), (2, .int (nI (p1))), (3, .int (nI (p2))), (4, .ref (r (k2))), (5, .int (nI (p3)))] := hl
  refine lv_iload_n C.1 C.2.1 dX0_decrypt_0 rfl (lv_at hl 3 rfl) ?_
  refine lv_bipush (v := 16) C.1 C.2.1 dX0_decrypt_1 (by decide) ?_
  by_cases hS : p2 < 16
  · refine lv_isub C.1 C.2.1 dX0_decrypt_3 ?_
    refine lv_topi (fun x6_1 ex6_1 => ?_)
    refine lv_istore (lv' := [(6, .int (x6_1)), (0, .ref (r (31))), (1, .ref (r (k1))), (2, .int (nI (p1))), (3, .int (nI (p2))), (4, .ref (r (k2))), (5, .int (nI (p3)))]) C.1 C.2.1 dX0_decrypt_4 hl (by decide) rfl (fun ls hl => ?_)
    refine lv_iload C.1 C.2.1 dX0_decrypt_6 (lv_at hl 0 rfl) ?_
    refine lv_if_ge (tgt := 13) C.1 C.2.1 dX0_decrypt_8 (by decide) (fun h_2 => absurd h_2 (by rw [ex6_1]; exact mm_sneg (by omega))) (fun _ => ?_)
    refine lv_iconst (v := 0) C.1 C.2.1 dX0_decrypt_11 (by decide) ?_
    exact m_zret C w (by decide) (by subst ex6_1; exact Eq.symm (((if_pos hS).trans rfl))) dX0_decrypt_12
  · refine lv_isub C.1 C.2.1 dX0_decrypt_3 ?_
    refine m_i (y := nI (p2 - 16)) (pk_sub (a := p2) (b := 16) (by omega)) ?_
    refine lv_istore (lv' := [(6, .int (nI (p2 - 16))), (0, .ref (r (31))), (1, .ref (r (k1))), (2, .int (nI (p1))), (3, .int (nI (p2))), (4, .ref (r (k2))), (5, .int (nI (p3)))]) C.1 C.2.1 dX0_decrypt_4 hl (by decide) rfl (fun ls hl => ?_)
    refine lv_iload C.1 C.2.1 dX0_decrypt_6 (lv_at hl 0 rfl) ?_
    refine lv_if_ge (tgt := 13) C.1 C.2.1 dX0_decrypt_8 (by decide) (fun _ => ?_) (fun h_3 => absurd h_3 (fun q => q (nI_pos' (by omega))))
    refine lv_aload_n C.1 C.2.1 dX0_decrypt_13 rfl (lv_at hl 1 rfl) ?_
    refine m_get C w (k := 31) (j := 1) (v := .ref (r (36))) flX0_21 (by decide) rfl rfl dX0_decrypt_14 ?_
    refine lv_aload_n C.1 C.2.1 dX0_decrypt_17 rfl (lv_at hl 2 rfl) ?_
    refine lv_iload_n C.1 C.2.1 dX0_decrypt_18 rfl (lv_at hl 3 rfl) ?_
    refine lv_iload C.1 C.2.1 dX0_decrypt_19 (lv_at hl 0 rfl) ?_
    refine m_cvv C w hl cvX0_46 (k := 36) (by decide) rfl (q := (RX6, TX6, 4)) rfl rfl (As := [.ref (r (k1)), .int (nI (p1)), .int (nI (p2 - 16))]) (rest := []) (c_X6_absorb l D b0 r M k1 p1 (p2 - 16) hk1 hs1 hn1 (by omega) (by omega)) rfl rfl (Nat.le_of_ble_eq_true rfl) ⟨Nat.le_of_ble_eq_true rfl, Nat.le_of_ble_eq_true rfl⟩ ⟨Nat.zero_le _, Nat.zero_le _⟩ dX0_decrypt_21 (fun M_4 H locs eM_4 w => ?_)
    refine lv_aload_n C.1 C.2.1 dX0_decrypt_24 rfl (lv_at hl 1 rfl) ?_
    refine m_get C w (k := 31) (j := 1) (v := .ref (r (36))) flX0_21 (by decide) rfl rfl dX0_decrypt_25 ?_
    refine lv_aload_n C.1 C.2.1 dX0_decrypt_28 rfl (lv_at hl 1 rfl) ?_
    refine m_get C w (k := 31) (j := 3) (v := .int (M_4.1 31 3)) flX0_29 (by decide) rfl rfl dX0_decrypt_29 ?_
    refine lv_iload C.1 C.2.1 dX0_decrypt_32 (lv_at hl 0 rfl) ?_
    refine lv_aload_n C.1 C.2.1 dX0_decrypt_34 rfl (lv_at hl 1 rfl) ?_
    refine m_get C w (k := 31) (j := 2) (v := .ref (r (41))) flX0_25 (by decide) rfl rfl dX0_decrypt_35 ?_
    refine m_cvv C w hl cvX0_54 (k := 36) (by decide) rfl (q := (RX6, TX6, 4)) rfl rfl (As := [.int (M_4.1 31 3), .int (nI (p2 - 16)), .ref (r (41))]) (rest := []) (c_X6_finish l D b0 r M_4 (M_4.1 31 3) (nI (p2 - 16)) 41 (by decide) rfl (by decide) (by omega)) rfl rfl (Nat.le_of_ble_eq_true rfl) ⟨Nat.le_of_ble_eq_true rfl, Nat.le_of_ble_eq_true rfl⟩ ⟨Nat.zero_le _, Nat.zero_le _⟩ dX0_decrypt_38 (fun M_5 H locs eM_5 w => ?_)
    refine lv_iconst (v := 0) C.1 C.2.1 dX0_decrypt_41 (by decide) ?_
    refine lv_istore (lv' := [(7, .int 0), (6, .int (nI (p2 - 16))), (0, .ref (r (31))), (1, .ref (r (k1))), (2, .int (nI (p1))), (3, .int (nI (p2))), (4, .ref (r (k2))), (5, .int (nI (p3)))]) C.1 C.2.1 dX0_decrypt_42 hl (by decide) rfl (fun ls hl => ?_)
    refine lv_iconst (v := 0) C.1 C.2.1 dX0_decrypt_44 (by decide) ?_
    refine lv_istore (lv' := [(8, .int 0), (7, .int 0), (6, .int (nI (p2 - 16))), (0, .ref (r (31))), (1, .ref (r (k1))), (2, .int (nI (p1))), (3, .int (nI (p2))), (4, .ref (r (k2))), (5, .int (nI (p3)))]) C.1 C.2.1 dX0_decrypt_45 hl (by decide) rfl (fun ls hl => ?_)
    have loop : ∀ (k t : Nat), t + k = 16 → ∀ (H : Heap) (locs : List Loc) (ls : Array Slot), mm_W D b0 r (M_5) s H locs → lv_has ls 9 [(8, .int (nI (t))), (7, .int (f_X0_decrypt_L47 k1 p1 p2 M_5 (0 : Int32) t)), (6, .int (nI (p2 - 16))), (0, .ref (r (31))), (1, .ref (r (k1))), (2, .int (nI (p1))), (3, .int (nI (p2))), (4, .ref (r (k2))), (5, .int (nI (p3)))] → W p l e (mm_rm 3 98) s m args below meth c H locs 0 0 (MQ below (va_Qi (fun v M' => (v, M') = f_X0_decrypt k1 p1 p2 k2 p3 M) (mm_U D b0 r) (fun q => b0 ≤ q)) args s 0 0 (fun q => b0 ≤ q)) (F0 m 47 ls []) := by
      intro k
      induction k with
      | zero =>
        intro t ht H locs ls w hl
        obtain rfl : 16 = t := by omega
        obtain ⟨y_6, ey_6⟩ : ∃ zz, zz = f_X0_decrypt_L47 k1 p1 p2 M_5 (0 : Int32) 16 := ⟨_, rfl⟩
        rw [← ey_6] at hl
        refine lv_iload C.1 C.2.1 dX0_decrypt_47 (lv_at hl 0 rfl) ?_
        refine lv_bipush (v := 16) C.1 C.2.1 dX0_decrypt_49 (by decide) ?_
        refine m_icmp_ge (tgt := 82) (a := 16) (b := 16) C (by omega) (by omega) dX0_decrypt_51 (by decide) (fun _ => ?_) (fun h_7 => absurd h_7 (by omega))
        refine lv_iload C.1 C.2.1 dX0_decrypt_82 (lv_at hl 1 rfl) ?_
        refine lv_if_eq (tgt := 89) C.1 C.2.1 dX0_decrypt_84 (by decide) (fun h_8 => ?_) (fun h_8 => ?_)
        · refine lv_aload_n C.1 C.2.1 dX0_decrypt_89 rfl (lv_at hl 3 rfl) ?_
          refine lv_aload_n C.1 C.2.1 dX0_decrypt_90 rfl (lv_at hl 4 rfl) ?_
          refine lv_iload_n C.1 C.2.1 dX0_decrypt_91 rfl (lv_at hl 5 rfl) ?_
          refine lv_iload C.1 C.2.1 dX0_decrypt_92 (lv_at hl 2 rfl) ?_
          refine lv_aload C.1 C.2.1 dX0_decrypt_94 (lv_at hl 7 rfl) ?_
          refine lv_iload C.1 C.2.1 dX0_decrypt_96 (lv_at hl 8 rfl) ?_
          refine m_cvv C w hl cvX0_50 (k := 31) (by decide) rfl (q := (RX0, TX0, 4)) rfl rfl (As := [.ref (r (k1)), .int (nI (p1)), .int (nI (p2 - 16)), .ref (r (k2)), .int (nI (p3))]) (rest := []) (c_X0_applyStream l D b0 r M_5 k1 p1 (p2 - 16) k2 p3 hk1 hs1 hn1 (by omega) (by omega) hk2 hs2 hn2 (by omega) (by omega)) rfl rfl (Nat.le_of_ble_eq_true rfl) ⟨Nat.le_of_ble_eq_true rfl, Nat.le_of_ble_eq_true rfl⟩ ⟨Nat.zero_le _, Nat.zero_le _⟩ dX0_decrypt_98 (fun M_9 H locs eM_9 w => ?_)
          refine lv_iconst (v := 1) C.1 C.2.1 dX0_decrypt_101 (by decide) ?_
          exact m_zret C w (by decide) (by subst eM_4 eM_5 ey_6 eM_9; exact Eq.symm (((if_neg hS).trans ((if_pos h_8).trans rfl)))) dX0_decrypt_102
        · refine lv_iconst (v := 0) C.1 C.2.1 dX0_decrypt_87 (by decide) ?_
          exact m_zret C w (by decide) (by subst eM_4 eM_5 ey_6; exact Eq.symm (((if_neg hS).trans ((if_neg h_8).trans rfl)))) dX0_decrypt_88
      | succ k ih =>
        intro t ht H locs ls w hl
        obtain ⟨y_10, ey_10⟩ : ∃ zz, zz = f_X0_decrypt_L47 k1 p1 p2 M_5 (0 : Int32) t := ⟨_, rfl⟩
        rw [← ey_10] at hl
        refine lv_iload C.1 C.2.1 dX0_decrypt_47 (lv_at hl 0 rfl) ?_
        refine lv_bipush (v := 16) C.1 C.2.1 dX0_decrypt_49 (by decide) ?_
        refine m_icmp_ge (tgt := 82) (a := t) (b := 16) C (by omega) (by omega) dX0_decrypt_51 (by decide) (fun h_11 => absurd h_11 (by omega)) (fun _ => ?_)
        refine lv_iload C.1 C.2.1 dX0_decrypt_54 (lv_at hl 1 rfl) ?_
        refine lv_aload_n C.1 C.2.1 dX0_decrypt_56 rfl (lv_at hl 3 rfl) ?_
        refine m_get C w (k := 31) (j := 2) (v := .ref (r (41))) flX0_25 (by decide) rfl rfl dX0_decrypt_57 ?_
        refine lv_iload C.1 C.2.1 dX0_decrypt_60 (lv_at hl 0 rfl) ?_
        refine m_bald C w (k := 41) (i := t) (n := 16) (wr := true) (by decide) rfl (by omega) (by decide) dX0_decrypt_62 ?_
        refine lv_aload_n C.1 C.2.1 dX0_decrypt_63 rfl (lv_at hl 4 rfl) ?_
        refine lv_iload_n C.1 C.2.1 dX0_decrypt_64 rfl (lv_at hl 5 rfl) ?_
        refine lv_iload C.1 C.2.1 dX0_decrypt_65 (lv_at hl 2 rfl) ?_
        refine lv_iadd C.1 C.2.1 dX0_decrypt_67 ?_
        refine m_i (y := nI (p1 + (p2 - 16))) (nI_add p1 (p2 - 16)) ?_
        refine lv_iload C.1 C.2.1 dX0_decrypt_68 (lv_at hl 0 rfl) ?_
        refine lv_iadd C.1 C.2.1 dX0_decrypt_70 ?_
        refine m_i (y := nI (p1 + (p2 - 16) + t)) (nI_add (p1 + (p2 - 16)) t) ?_
        refine m_bald C w (k := k1) (i := p1 + (p2 - 16) + t) (n := n1) (wr := w1) hk1 hs1 (by omega) hn1 dX0_decrypt_71 ?_
        refine lv_ixor C.1 C.2.1 dX0_decrypt_72 ?_
        refine lv_ior C.1 C.2.1 dX0_decrypt_73 ?_
        refine lv_topi (fun x7_12 ex7_12 => ?_)
        refine lv_istore (lv' := [(7, .int (x7_12)), (8, .int (nI (t))), (6, .int (nI (p2 - 16))), (0, .ref (r (31))), (1, .ref (r (k1))), (2, .int (nI (p1))), (3, .int (nI (p2))), (4, .ref (r (k2))), (5, .int (nI (p3)))]) C.1 C.2.1 dX0_decrypt_74 hl (by decide) rfl (fun ls hl => ?_)
        refine lv_iinc (v := (nI (t + 1))) (lv' := [(8, .int (nI (t + 1))), (7, .int (x7_12)), (6, .int (nI (p2 - 16))), (0, .ref (r (31))), (1, .ref (r (k1))), (2, .int (nI (p1))), (3, .int (nI (p2))), (4, .ref (r (k2))), (5, .int (nI (p3)))]) C.1 C.2.1 dX0_decrypt_76 hl (k := 1) rfl (nI_add t 1) (by decide) rfl (fun ls hl => ?_)
        refine lv_goto (tgt := 47) C.1 C.2.1 dX0_decrypt_79 (by decide) ?_
        have h9 : lv_has ls 9 [(8, .int (nI (t + 1))), (7, .int (x7_12)), (6, .int (nI (p2 - 16))), (0, .ref (r (31))), (1, .ref (r (k1))), (2, .int (nI (p1))), (3, .int (nI (p2))), (4, .ref (r (k2))), (5, .int (nI (p3)))] := lv_sub hl [0, 1, 2, 3, 4, 5, 6, 7, 8] rfl
        have hlZ : lv_has ls 9 [(8, .int (nI (t + 1))), (7, .int (x7_12)), (6, .int (nI (p2 - 16))), (0, .ref (r (31))), (1, .ref (r (k1))), (2, .int (nI (p1))), (3, .int (nI (p2))), (4, .ref (r (k2))), (5, .int (nI (p3)))] := h9
        have wZ := w
        subst ey_10 ex7_12
        refine ih (t + 1) (by omega) _ _ _ (wZ) ?_
        exact hlZ
    exact loop 16 0 (by omega) _ _ ls w hl
