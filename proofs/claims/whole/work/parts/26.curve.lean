def f_X4_limbBits (p1 : Nat) : Int32 :=
  (nI (26 - (p1 % 2)))
set_option maxHeartbeats 4000000 in
set_option maxRecDepth 100000 in
theorem c_X4_limbBits (l : Launch) (D : va_G) (b0 : Nat) (r : Nat → Nat) (M : mm_M) (p1 : Nat) (hp1 : p1 < 2 ^ 31) : mm_Mi l yX4_limbBits cX4_limbBits 1 .int 0 0 D b0 r [.int (nI (p1))] M (fun v M' => v = f_X4_limbBits p1 ∧ M' = M) := by
  refine mm_enter (cc := cX4_limbBits) (nL := 1) (ret := (some .int)) (by decide) (Nat.le_of_ble_eq_true rfl) ?_
  intro p e s m args below meth c C w ls hl
  have hl : lv_has ls 1 [(0, .int (nI (p1)))] := hl
  refine lv_bipush (v := 26) C.1 C.2.1 dX4_limbBits_0 (by decide) ?_
  refine lv_iload_n C.1 C.2.1 dX4_limbBits_2 rfl (lv_at hl 0 rfl) ?_
  refine lv_iconst (v := 1) C.1 C.2.1 dX4_limbBits_3 (by decide) ?_
  refine lv_iand C.1 C.2.1 dX4_limbBits_4 ?_
  refine m_i (y := nI (p1 % 2)) (pk_andN (n := p1) (by omega) 1 (by decide)) ?_
  refine lv_isub C.1 C.2.1 dX4_limbBits_5 ?_
  refine m_i (y := nI (26 - (p1 % 2))) (pk_sub (a := 26) (b := p1 % 2) (by omega)) ?_
  exact m_iret C w ⟨by exact Eq.symm (rfl), rfl⟩ dX4_limbBits_6

def f_X4_decodeScalar (k1 : Nat) (M : mm_M) : mm_M :=
  let M_1 := mm_cp M k1 0 14 0 32
  let M_2 := mm_w M_1 14 0 (mm_b ((M_1.1 14 0) &&& (-8 : Int32)))
  let M_3 := mm_w M_2 14 31 (mm_b ((M_2.1 14 31) &&& (127 : Int32)))
  let M_4 := mm_w M_3 14 31 (mm_b ((M_3.1 14 31) ||| (64 : Int32)))
  M_4
theorem w_f_X4_decodeScalar (k1 : Nat) (M : mm_M) : mm_fr [14] M (f_X4_decodeScalar k1 M) := by
  unfold f_X4_decodeScalar
  exact (mm_fr_w (by simp) (mm_fr_w (by simp) (mm_fr_w (by simp) (mm_fr_cp (by simp) (mm_fr_refl _ _)))))
set_option maxHeartbeats 4000000 in
set_option maxRecDepth 100000 in
theorem c_X4_decodeScalar (l : Launch) (D : va_G) (b0 : Nat) (r : Nat → Nat) (M : mm_M) (k1 : Nat) {n1 : Nat} {w1 : Bool} (hk1 : k1 < 181) (hs1 : mm_sh k1 = .inl (.byte, n1, w1)) (hn1 : n1 < 2 ^ 31) (hp1 : 32 ≤ n1) : mm_Mv l yX4_decodeScalar cX4_decodeScalar 2 1 48 D b0 r [.ref (r (13)), .ref (r (k1))] M (fun M' => M' = f_X4_decodeScalar k1 M) := by
  refine mm_enter (cc := cX4_decodeScalar) (nL := 2) (ret := none) (by decide) (Nat.le_of_ble_eq_true rfl) ?_
  intro p e s m args below meth c C w ls hl
  have hl : lv_has ls 2 [(0, .ref (r (13))), (1, .ref (r (k1)))] := hl
  refine lv_aload_n C.1 C.2.1 dX4_decodeScalar_0 rfl (lv_at hl 1 rfl) ?_
  refine lv_iconst (v := 0) C.1 C.2.1 dX4_decodeScalar_1 (by decide) ?_
  refine lv_aload_n C.1 C.2.1 dX4_decodeScalar_2 rfl (lv_at hl 0 rfl) ?_
  refine m_get C w (k := 13) (j := 0) (v := .ref (r (14))) flX4_9 (by decide) rfl rfl dX4_decodeScalar_3 ?_
  refine lv_iconst (v := 0) C.1 C.2.1 dX4_decodeScalar_6 (by decide) ?_
  refine lv_bipush (v := 32) C.1 C.2.1 dX4_decodeScalar_7 (by decide) ?_
  refine m_cpb C w hl (k := k1) (k2 := 14) (sp := 0) (dp := 0) (n := 32) hk1 hs1 hn1 (by decide) rfl (by decide) acX4_69 (by omega) (by omega) (Nat.le_of_ble_eq_true rfl) (Nat.le_of_ble_eq_true rfl) dX4_decodeScalar_9 (fun H locs w => ?_)
  obtain ⟨M_1, eM_1⟩ : ∃ zz, zz = mm_cp M k1 0 14 0 32 := ⟨_, rfl⟩
  rw [← eM_1] at w
  refine lv_aload_n C.1 C.2.1 dX4_decodeScalar_12 rfl (lv_at hl 0 rfl) ?_
  refine m_get C w (k := 13) (j := 0) (v := .ref (r (14))) flX4_9 (by decide) rfl rfl dX4_decodeScalar_13 ?_
  refine lv_iconst (v := 0) C.1 C.2.1 dX4_decodeScalar_16 (by decide) ?_
  refine lv_dup2_11 C.1 C.2.1 dX4_decodeScalar_17 rfl rfl ?_
  refine m_bald C w (k := 14) (i := 0) (n := 32) (wr := true) (by decide) rfl (by omega) (by decide) dX4_decodeScalar_18 ?_
  refine lv_bipush (v := (-8)) C.1 C.2.1 dX4_decodeScalar_19 (by decide) ?_
  refine lv_iand C.1 C.2.1 dX4_decodeScalar_21 ?_
  refine lv_i2b (v := mm_b ((M_1.1 14 0) &&& (-8 : Int32))) C.1 C.2.1 dX4_decodeScalar_22 rfl ?_
  refine m_bast C w (k := 14) (i := 0) (n := 32) (x := (mm_b ((M_1.1 14 0) &&& (-8 : Int32)))) (by decide) rfl (by omega) (by decide) (mm_bb _) dX4_decodeScalar_23 (fun H locs w => ?_)
  obtain ⟨M_2, eM_2⟩ : ∃ zz, zz = mm_w M_1 14 0 (mm_b ((M_1.1 14 0) &&& (-8 : Int32))) := ⟨_, rfl⟩
  rw [← eM_2] at w
  refine lv_aload_n C.1 C.2.1 dX4_decodeScalar_24 rfl (lv_at hl 0 rfl) ?_
  refine m_get C w (k := 13) (j := 0) (v := .ref (r (14))) flX4_9 (by decide) rfl rfl dX4_decodeScalar_25 ?_
  refine lv_bipush (v := 31) C.1 C.2.1 dX4_decodeScalar_28 (by decide) ?_
  refine lv_dup2_11 C.1 C.2.1 dX4_decodeScalar_30 rfl rfl ?_
  refine m_bald C w (k := 14) (i := 31) (n := 32) (wr := true) (by decide) rfl (by omega) (by decide) dX4_decodeScalar_31 ?_
  refine lv_bipush (v := 127) C.1 C.2.1 dX4_decodeScalar_32 (by decide) ?_
  refine lv_iand C.1 C.2.1 dX4_decodeScalar_34 ?_
  refine lv_i2b (v := mm_b ((M_2.1 14 31) &&& (127 : Int32))) C.1 C.2.1 dX4_decodeScalar_35 rfl ?_
  refine m_bast C w (k := 14) (i := 31) (n := 32) (x := (mm_b ((M_2.1 14 31) &&& (127 : Int32)))) (by decide) rfl (by omega) (by decide) (mm_bb _) dX4_decodeScalar_36 (fun H locs w => ?_)
  obtain ⟨M_3, eM_3⟩ : ∃ zz, zz = mm_w M_2 14 31 (mm_b ((M_2.1 14 31) &&& (127 : Int32))) := ⟨_, rfl⟩
  rw [← eM_3] at w
  refine lv_aload_n C.1 C.2.1 dX4_decodeScalar_37 rfl (lv_at hl 0 rfl) ?_
  refine m_get C w (k := 13) (j := 0) (v := .ref (r (14))) flX4_9 (by decide) rfl rfl dX4_decodeScalar_38 ?_
  refine lv_bipush (v := 31) C.1 C.2.1 dX4_decodeScalar_41 (by decide) ?_
  refine lv_dup2_11 C.1 C.2.1 dX4_decodeScalar_43 rfl rfl ?_
  refine m_bald C w (k := 14) (i := 31) (n := 32) (wr := true) (by decide) rfl (by omega) (by decide) dX4_decodeScalar_44 ?_
  refine lv_bipush (v := 64) C.1 C.2.1 dX4_decodeScalar_45 (by decide) ?_
  refine lv_ior C.1 C.2.1 dX4_decodeScalar_47 ?_
  refine lv_i2b (v := mm_b ((M_3.1 14 31) ||| (64 : Int32))) C.1 C.2.1 dX4_decodeScalar_48 rfl ?_
  refine m_bast C w (k := 14) (i := 31) (n := 32) (x := (mm_b ((M_3.1 14 31) ||| (64 : Int32)))) (by decide) rfl (by omega) (by decide) (mm_bb _) dX4_decodeScalar_49 (fun H locs w => ?_)
  obtain ⟨M_4, eM_4⟩ : ∃ zz, zz = mm_w M_3 14 31 (mm_b ((M_3.1 14 31) ||| (64 : Int32))) := ⟨_, rfl⟩
  rw [← eM_4] at w
  exact m_vret C w (by subst eM_1 eM_2 eM_3 eM_4; exact Eq.symm (rfl)) dX4_decodeScalar_50

def f_X4_decodePoint_L2 (k1 : Nat) (σ : mm_M) : Nat → mm_M
  | 0 => σ
  | t + 1 =>
  let M_3 := f_X4_decodePoint_L2 k1 σ t
  let x3_6 := mm_us (f_X1_loadLittle k1 ((mm_lim t) / 8) M_3) (nI ((mm_lim t) % 8))
  let M_8 := mm_wl M_3 16 t ((((x3_6) &&& (((1 : Int32) <<< ((f_X4_limbBits t) &&& 31)) - (1 : Int32))) : Int32).toInt64)
  M_8
theorem w_f_X4_decodePoint_L2 (k1 : Nat) (σ : mm_M) : ∀ t : Nat, mm_fr [16] σ (f_X4_decodePoint_L2 k1 σ t)
  | 0 => mm_fr_refl _ _
  | t + 1 => have ih := w_f_X4_decodePoint_L2 k1 σ t
    (mm_fr_wl (by simp) ih)
def f_X4_decodePoint (k1 : Nat) (M : mm_M) : mm_M :=
  let M_1 := f_X4_decodePoint_L2 k1 M 10
  M_1
theorem w_f_X4_decodePoint (k1 : Nat) (M : mm_M) : mm_fr [16] M (f_X4_decodePoint k1 M) := by
  unfold f_X4_decodePoint
  exact ((w_f_X4_decodePoint_L2 _ _ 10).on (by simp) (mm_fr_refl _ _))
set_option maxHeartbeats 4000000 in
set_option maxRecDepth 100000 in
theorem c_X4_decodePoint (l : Launch) (D : va_G) (b0 : Nat) (r : Nat → Nat) (M : mm_M) (k1 : Nat) {n1 : Nat} {w1 : Bool} (hk1 : k1 < 181) (hs1 : mm_sh k1 = .inl (.byte, n1, w1)) (hn1 : n1 < 2 ^ 31) (hp1 : 32 ≤ n1) : mm_Mv l yX4_decodePoint cX4_decodePoint 4 1 21 D b0 r [.ref (r (13)), .ref (r (k1))] M (fun M' => M' = f_X4_decodePoint k1 M) := by
  refine mm_enter (cc := cX4_decodePoint) (nL := 4) (ret := none) (by decide) (Nat.le_of_ble_eq_true rfl) ?_
  intro p e s m args below meth c C w ls hl
  have hl : lv_has ls 4 [(0, .ref (r (13))), (1, .ref (r (k1)))] := hl
  refine lv_iconst (v := 0) C.1 C.2.1 dX4_decodePoint_0 (by decide) ?_
  refine lv_istore_n (lv' := [(2, .int 0), (0, .ref (r (13))), (1, .ref (r (k1)))]) C.1 C.2.1 dX4_decodePoint_1 rfl hl (by decide) rfl (fun ls hl => ?_)
  have loop : ∀ (k t : Nat), t + k = 10 → ∀ (H : Heap) (locs : List Loc) (ls : Array Slot), mm_W D b0 r (f_X4_decodePoint_L2 k1 M t) s H locs → lv_has ls 4 [(2, .int (nI (t))), (0, .ref (r (13))), (1, .ref (r (k1)))] → W p l e (mm_rm 1 21) s m args below meth c H locs 0 0 (MQ below (va_Qv (fun M' => M' = f_X4_decodePoint k1 M) (mm_U D b0 r) (fun q => b0 ≤ q)) args s 0 0 (fun q => b0 ≤ q)) (F0 m 2 ls []) := by
    intro k
    induction k with
    | zero =>
      intro t ht H locs ls w hl
      obtain rfl : 10 = t := by omega
      obtain ⟨M_1, eM_1⟩ : ∃ zz, zz = f_X4_decodePoint_L2 k1 M 10 := ⟨_, rfl⟩
      rw [← eM_1] at w
      refine lv_iload_n C.1 C.2.1 dX4_decodePoint_2 rfl (lv_at hl 0 rfl) ?_
      refine lv_bipush (v := 10) C.1 C.2.1 dX4_decodePoint_3 (by decide) ?_
      refine m_icmp_ge (tgt := 52) (a := 10) (b := 10) C (by omega) (by omega) dX4_decodePoint_5 (by decide) (fun _ => ?_) (fun h_2 => absurd h_2 (by omega))
      exact m_vret C w (by subst eM_1; exact Eq.symm (rfl)) dX4_decodePoint_52
    | succ k ih =>
      intro t ht H locs ls w hl
      obtain ⟨M_3, eM_3⟩ : ∃ zz, zz = f_X4_decodePoint_L2 k1 M t := ⟨_, rfl⟩
      rw [← eM_3] at w
      have hlm := mm_lim_le t (by omega)
      refine lv_iload_n C.1 C.2.1 dX4_decodePoint_2 rfl (lv_at hl 0 rfl) ?_
      refine lv_bipush (v := 10) C.1 C.2.1 dX4_decodePoint_3 (by decide) ?_
      refine m_icmp_ge (tgt := 52) (a := t) (b := 10) C (by omega) (by omega) dX4_decodePoint_5 (by decide) (fun h_4 => absurd h_4 (by omega)) (fun _ => ?_)
      refine lv_aload_n C.1 C.2.1 dX4_decodePoint_8 rfl (lv_at hl 2 rfl) ?_
      refine m_gets C w C.2.2.2.2.2.2.2.1.2.1 fsX4_75 dX4_decodePoint_9 ?_
      refine lv_iload_n C.1 C.2.1 dX4_decodePoint_12 rfl (lv_at hl 0 rfl) ?_
      refine m_iald C w (k := 174) (i := t) (n := 10) (wr := false) (by decide) rfl (by omega) (by decide) dX4_decodePoint_13 ?_
      refine m_i (y := nI (mm_lim t)) (by rw [w.1.tab (k := 174) (by decide) rfl (by omega)]; exact mm_lim_tab t (by omega)) ?_
      refine lv_iconst (v := 3) C.1 C.2.1 dX4_decodePoint_14 (by decide) ?_
      refine lv_ishr C.1 C.2.1 dX4_decodePoint_15 ?_
      refine m_i (y := nI ((mm_lim t) / 8)) (pk_shrN (n := mm_lim t) (by omega) _ 3 (by decide)) ?_
      refine m_csi C w hl csX4_79 (As := [.ref (r (k1)), .int (nI ((mm_lim t) / 8))]) (rest := []) (c_X1_loadLittle l D b0 r M_3 k1 ((mm_lim t) / 8) hk1 hs1 hn1 (by omega)) rfl rfl (Nat.le_of_ble_eq_true rfl) ⟨Nat.le_of_ble_eq_true rfl, Nat.le_of_ble_eq_true rfl⟩ ⟨Nat.zero_le _, Nat.zero_le _⟩ dX4_decodePoint_16 (fun v_5 M9 H locs e9 w => ?_)
      obtain ⟨ev_5, e9⟩ := e9
      rw [e9] at w
      subst ev_5
      refine m_gets C w C.2.2.2.2.2.2.2.1.2.1 fsX4_75 dX4_decodePoint_19 ?_
      refine lv_iload_n C.1 C.2.1 dX4_decodePoint_22 rfl (lv_at hl 0 rfl) ?_
      refine m_iald C w (k := 174) (i := t) (n := 10) (wr := false) (by decide) rfl (by omega) (by decide) dX4_decodePoint_23 ?_
      refine m_i (y := nI (mm_lim t)) (by rw [w.1.tab (k := 174) (by decide) rfl (by omega)]; exact mm_lim_tab t (by omega)) ?_
      refine lv_bipush (v := 7) C.1 C.2.1 dX4_decodePoint_24 (by decide) ?_
      refine lv_iand C.1 C.2.1 dX4_decodePoint_26 ?_
      refine m_i (y := nI ((mm_lim t) % 8)) (pk_andN (n := mm_lim t) (by omega) 3 (by decide)) ?_
      refine lv_iushr (v := mm_us (f_X1_loadLittle k1 ((mm_lim t) / 8) M_3) (nI ((mm_lim t) % 8))) C.1 C.2.1 dX4_decodePoint_27 rfl ?_
      refine lv_topi (fun x3_6 ex3_6 => ?_)
      refine lv_istore_n (lv' := [(3, .int (x3_6)), (2, .int (nI (t))), (0, .ref (r (13))), (1, .ref (r (k1)))]) C.1 C.2.1 dX4_decodePoint_28 rfl hl (by decide) rfl (fun ls hl => ?_)
      refine lv_aload_n C.1 C.2.1 dX4_decodePoint_29 rfl (lv_at hl 2 rfl) ?_
      refine m_get C w (k := 13) (j := 2) (v := .ref (r (16))) flX4_18 (by decide) rfl rfl dX4_decodePoint_30 ?_
      refine lv_iload_n C.1 C.2.1 dX4_decodePoint_33 rfl (lv_at hl 1 rfl) ?_
      refine lv_iload_n C.1 C.2.1 dX4_decodePoint_34 rfl (lv_at hl 0 rfl) ?_
      refine lv_iconst (v := 1) C.1 C.2.1 dX4_decodePoint_35 (by decide) ?_
      refine lv_iload_n C.1 C.2.1 dX4_decodePoint_36 rfl (lv_at hl 1 rfl) ?_
      refine m_csi C w hl csX4_85 (As := [.int (nI (t))]) (rest := [.int 1, .int (x3_6), .int (nI (t)), .ref (r (16))]) (c_X4_limbBits l D b0 r M_3 t (by omega)) rfl rfl (Nat.le_of_ble_eq_true rfl) ⟨Nat.le_of_ble_eq_true rfl, Nat.le_of_ble_eq_true rfl⟩ ⟨Nat.zero_le _, Nat.zero_le _⟩ dX4_decodePoint_37 (fun v_7 M9 H locs e9 w => ?_)
      obtain ⟨ev_7, e9⟩ := e9
      rw [e9] at w
      subst ev_7
      refine lv_ishl C.1 C.2.1 dX4_decodePoint_40 ?_
      refine lv_iconst (v := 1) C.1 C.2.1 dX4_decodePoint_41 (by decide) ?_
      refine lv_isub C.1 C.2.1 dX4_decodePoint_42 ?_
      refine lv_iand C.1 C.2.1 dX4_decodePoint_43 ?_
      refine lv_i2l (v := (((x3_6) &&& (((1 : Int32) <<< ((f_X4_limbBits t) &&& 31)) - (1 : Int32))) : Int32).toInt64) C.1 C.2.1 dX4_decodePoint_44 rfl ?_
      refine m_last C w (k := 16) (i := t) (n := 10) (x := ((((x3_6) &&& (((1 : Int32) <<< ((f_X4_limbBits t) &&& 31)) - (1 : Int32))) : Int32).toInt64)) (by decide) rfl (by omega) (by decide) dX4_decodePoint_45 (fun H locs w => ?_)
      obtain ⟨M_8, eM_8⟩ : ∃ zz, zz = mm_wl M_3 16 t ((((x3_6) &&& (((1 : Int32) <<< ((f_X4_limbBits t) &&& 31)) - (1 : Int32))) : Int32).toInt64) := ⟨_, rfl⟩
      rw [← eM_8] at w
      refine lv_iinc (v := (nI (t + 1))) (lv' := [(2, .int (nI (t + 1))), (3, .int (x3_6)), (0, .ref (r (13))), (1, .ref (r (k1)))]) C.1 C.2.1 dX4_decodePoint_46 hl (k := 1) rfl (nI_add t 1) (by decide) rfl (fun ls hl => ?_)
      refine lv_goto (tgt := 2) C.1 C.2.1 dX4_decodePoint_49 (by decide) ?_
      have h9 : lv_has ls 4 [(2, .int (nI (t + 1))), (0, .ref (r (13))), (1, .ref (r (k1)))] := lv_sub hl [0, 2, 3] rfl
      have hlZ : lv_has ls 4 [(2, .int (nI (t + 1))), (0, .ref (r (13))), (1, .ref (r (k1)))] := h9
      have wZ := w
      subst eM_3 ex3_6 eM_8
      refine ih (t + 1) (by omega) _ _ _ (wZ) ?_
      exact hlZ
  exact loop 10 0 (by omega) _ _ ls w hl

def f_X4_swapIf_L7 (k1 : Nat) (k2 : Nat) (x3_1 : Int64) (σ : mm_M) : Nat → mm_M
  | 0 => σ
  | t + 1 =>
  let M_4 := f_X4_swapIf_L7 k1 k2 x3_1 σ t
  let x6_6 := (x3_1) &&& ((M_4.2 k1 t) ^^^ (M_4.2 k2 t))
  let M_7 := mm_wl M_4 k1 t ((M_4.2 k1 t) ^^^ (x6_6))
  let M_8 := mm_wl M_7 k2 t ((M_7.2 k2 t) ^^^ (x6_6))
  M_8
theorem w_f_X4_swapIf_L7 (k1 : Nat) (k2 : Nat) (x3_1 : Int64) (σ : mm_M) : ∀ t : Nat, mm_fr [k1, k2] σ (f_X4_swapIf_L7 k1 k2 x3_1 σ t)
  | 0 => mm_fr_refl _ _
  | t + 1 => have ih := w_f_X4_swapIf_L7 k1 k2 x3_1 σ t
    (mm_fr_wl (by simp) (mm_fr_wl (by simp) ih))
def f_X4_swapIf (v1 : Int32) (k1 : Nat) (k2 : Nat) (M : mm_M) : mm_M :=
  let x3_1 := -(((v1) : Int32).toInt64)
  let M_2 := f_X4_swapIf_L7 k1 k2 x3_1 M 10
  M_2
theorem w_f_X4_swapIf (v1 : Int32) (k1 : Nat) (k2 : Nat) (M : mm_M) : mm_fr [k1, k2] M (f_X4_swapIf v1 k1 k2 M) := by
  unfold f_X4_swapIf
  exact ((w_f_X4_swapIf_L7 _ _ _ _ 10).on (by simp) (mm_fr_refl _ _))
set_option maxHeartbeats 4000000 in
set_option maxRecDepth 100000 in
theorem c_X4_swapIf (l : Launch) (D : va_G) (b0 : Nat) (r : Nat → Nat) (M : mm_M) (v1 : Int32) (k1 : Nat) (k2 : Nat) {n1 : Nat} (hk1 : k1 < 173) (hs1 : mm_sh k1 = .inl (.long, n1, true)) (hn1 : n1 < 2 ^ 31) (hp1 : 10 ≤ n1) {n2 : Nat} (hk2 : k2 < 173) (hs2 : mm_sh k2 = .inl (.long, n2, true)) (hn2 : n2 < 2 ^ 31) (hp2 : 10 ≤ n2) : mm_Mv l yX4_swapIf cX4_swapIf 8 0 0 D b0 r [.int (v1), .ref (r (k1)), .ref (r (k2))] M (fun M' => M' = f_X4_swapIf v1 k1 k2 M) := by
  refine mm_enter (cc := cX4_swapIf) (nL := 8) (ret := none) (by decide) (Nat.le_of_ble_eq_true rfl) ?_
  intro p e s m args below meth c C w ls hl
  have hl : lv_has ls 8 [(0, .int (v1)), (1, .ref (r (k1))), (2, .ref (r (k2)))] := hl
  refine lv_iload_n C.1 C.2.1 dX4_swapIf_0 rfl (lv_at hl 0 rfl) ?_
  refine lv_i2l (v := ((v1) : Int32).toInt64) C.1 C.2.1 dX4_swapIf_1 rfl ?_
  refine lv_lneg C.1 C.2.1 dX4_swapIf_2 ?_
  refine lv_topl (fun x3_1 ex3_1 => ?_)
  refine lv_lstore_n (lv' := [(3, .long (x3_1)), (0, .int (v1)), (1, .ref (r (k1))), (2, .ref (r (k2)))]) C.1 C.2.1 dX4_swapIf_3 rfl hl (by decide) rfl (fun ls hl => ?_)
  refine lv_iconst (v := 0) C.1 C.2.1 dX4_swapIf_4 (by decide) ?_
  refine lv_istore (lv' := [(5, .int 0), (3, .long (x3_1)), (0, .int (v1)), (1, .ref (r (k1))), (2, .ref (r (k2)))]) C.1 C.2.1 dX4_swapIf_5 hl (by decide) rfl (fun ls hl => ?_)
  have loop : ∀ (k t : Nat), t + k = 10 → ∀ (H : Heap) (locs : List Loc) (ls : Array Slot), mm_W D b0 r (f_X4_swapIf_L7 k1 k2 x3_1 M t) s H locs → lv_has ls 8 [(5, .int (nI (t))), (3, .long (x3_1)), (0, .int (v1)), (1, .ref (r (k1))), (2, .ref (r (k2)))] → W p l e (mm_rm 0 0) s m args below meth c H locs 0 0 (MQ below (va_Qv (fun M' => M' = f_X4_swapIf v1 k1 k2 M) (mm_U D b0 r) (fun q => b0 ≤ q)) args s 0 0 (fun q => b0 ≤ q)) (F0 m 7 ls []) := by
    intro k
    induction k with
    | zero =>
      intro t ht H locs ls w hl
      obtain rfl : 10 = t := by omega
      obtain ⟨M_2, eM_2⟩ : ∃ zz, zz = f_X4_swapIf_L7 k1 k2 x3_1 M 10 := ⟨_, rfl⟩
      rw [← eM_2] at w
      refine lv_iload C.1 C.2.1 dX4_swapIf_7 (lv_at hl 0 rfl) ?_
      refine lv_bipush (v := 10) C.1 C.2.1 dX4_swapIf_9 (by decide) ?_
      refine m_icmp_ge (tgt := 51) (a := 10) (b := 10) C (by omega) (by omega) dX4_swapIf_11 (by decide) (fun _ => ?_) (fun h_3 => absurd h_3 (by omega))
      exact m_vret C w (by subst ex3_1 eM_2; exact Eq.symm (rfl)) dX4_swapIf_51
    | succ k ih =>
      intro t ht H locs ls w hl
      obtain ⟨M_4, eM_4⟩ : ∃ zz, zz = f_X4_swapIf_L7 k1 k2 x3_1 M t := ⟨_, rfl⟩
      rw [← eM_4] at w
      refine lv_iload C.1 C.2.1 dX4_swapIf_7 (lv_at hl 0 rfl) ?_
      refine lv_bipush (v := 10) C.1 C.2.1 dX4_swapIf_9 (by decide) ?_
      refine m_icmp_ge (tgt := 51) (a := t) (b := 10) C (by omega) (by omega) dX4_swapIf_11 (by decide) (fun h_5 => absurd h_5 (by omega)) (fun _ => ?_)
      refine lv_lload_n C.1 C.2.1 dX4_swapIf_14 rfl (lv_at hl 1 rfl) ?_
      refine lv_aload_n C.1 C.2.1 dX4_swapIf_15 rfl (lv_at hl 3 rfl) ?_
      refine lv_iload C.1 C.2.1 dX4_swapIf_16 (lv_at hl 0 rfl) ?_
      refine m_lald C w (k := k1) (i := t) (n := n1) (wr := true) (Nat.lt_trans hk1 (by decide)) hs1 (by omega) hn1 dX4_swapIf_18 ?_
      refine lv_aload_n C.1 C.2.1 dX4_swapIf_19 rfl (lv_at hl 4 rfl) ?_
      refine lv_iload C.1 C.2.1 dX4_swapIf_20 (lv_at hl 0 rfl) ?_
      refine m_lald C w (k := k2) (i := t) (n := n2) (wr := true) (Nat.lt_trans hk2 (by decide)) hs2 (by omega) hn2 dX4_swapIf_22 ?_
      refine lv_lxor C.1 C.2.1 dX4_swapIf_23 ?_
      refine lv_land C.1 C.2.1 dX4_swapIf_24 ?_
      refine lv_topl (fun x6_6 ex6_6 => ?_)
      refine lv_lstore (lv' := [(6, .long (x6_6)), (5, .int (nI (t))), (3, .long (x3_1)), (0, .int (v1)), (1, .ref (r (k1))), (2, .ref (r (k2)))]) C.1 C.2.1 dX4_swapIf_25 hl (by decide) rfl (fun ls hl => ?_)
      refine lv_aload_n C.1 C.2.1 dX4_swapIf_27 rfl (lv_at hl 4 rfl) ?_
      refine lv_iload C.1 C.2.1 dX4_swapIf_28 (lv_at hl 1 rfl) ?_
      refine lv_dup2_11 C.1 C.2.1 dX4_swapIf_30 rfl rfl ?_
      refine m_lald C w (k := k1) (i := t) (n := n1) (wr := true) (Nat.lt_trans hk1 (by decide)) hs1 (by omega) hn1 dX4_swapIf_31 ?_
      refine lv_lload C.1 C.2.1 dX4_swapIf_32 (lv_at hl 0 rfl) ?_
      refine lv_lxor C.1 C.2.1 dX4_swapIf_34 ?_
      refine m_last C w (k := k1) (i := t) (n := n1) (x := ((M_4.2 k1 t) ^^^ (x6_6))) hk1 hs1 (by omega) hn1 dX4_swapIf_35 (fun H locs w => ?_)
      obtain ⟨M_7, eM_7⟩ : ∃ zz, zz = mm_wl M_4 k1 t ((M_4.2 k1 t) ^^^ (x6_6)) := ⟨_, rfl⟩
      rw [← eM_7] at w
      refine lv_aload_n C.1 C.2.1 dX4_swapIf_36 rfl (lv_at hl 5 rfl) ?_
      refine lv_iload C.1 C.2.1 dX4_swapIf_37 (lv_at hl 1 rfl) ?_
      refine lv_dup2_11 C.1 C.2.1 dX4_swapIf_39 rfl rfl ?_
      refine m_lald C w (k := k2) (i := t) (n := n2) (wr := true) (Nat.lt_trans hk2 (by decide)) hs2 (by omega) hn2 dX4_swapIf_40 ?_
      refine lv_lload C.1 C.2.1 dX4_swapIf_41 (lv_at hl 0 rfl) ?_
      refine lv_lxor C.1 C.2.1 dX4_swapIf_43 ?_
      refine m_last C w (k := k2) (i := t) (n := n2) (x := ((M_7.2 k2 t) ^^^ (x6_6))) hk2 hs2 (by omega) hn2 dX4_swapIf_44 (fun H locs w => ?_)
      obtain ⟨M_8, eM_8⟩ : ∃ zz, zz = mm_wl M_7 k2 t ((M_7.2 k2 t) ^^^ (x6_6)) := ⟨_, rfl⟩
      rw [← eM_8] at w
      refine lv_iinc (v := (nI (t + 1))) (lv' := [(5, .int (nI (t + 1))), (6, .long (x6_6)), (3, .long (x3_1)), (0, .int (v1)), (1, .ref (r (k1))), (2, .ref (r (k2)))]) C.1 C.2.1 dX4_swapIf_45 hl (k := 1) rfl (nI_add t 1) (by decide) rfl (fun ls hl => ?_)
      refine lv_goto (tgt := 7) C.1 C.2.1 dX4_swapIf_48 (by decide) ?_
      have h9 : lv_has ls 8 [(5, .int (nI (t + 1))), (3, .long (x3_1)), (0, .int (v1)), (1, .ref (r (k1))), (2, .ref (r (k2)))] := lv_sub hl [0, 2, 3, 4, 5] rfl
      have hlZ : lv_has ls 8 [(5, .int (nI (t + 1))), (3, .long (x3_1)), (0, .int (v1)), (1, .ref (r (k1))), (2, .ref (r (k2)))] := h9
      have wZ := w
      subst eM_4 ex6_6 eM_7 eM_8
      refine ih (t + 1) (by omega) _ _ _ (wZ) ?_
      exact hlZ
  exact loop 10 0 (by omega) _ _ ls w hl

def f_X4_setSmall_L7 (k1 : Nat) (σ : mm_M) : Nat → mm_M
  | 0 => σ
  | t + 1 =>
  let M_4 := f_X4_setSmall_L7 k1 σ t
  let M_6 := mm_wl M_4 k1 (1 + t) (0)
  M_6
theorem w_f_X4_setSmall_L7 (k1 : Nat) (σ : mm_M) : ∀ t : Nat, mm_fr [k1] σ (f_X4_setSmall_L7 k1 σ t)
  | 0 => mm_fr_refl _ _
  | t + 1 => have ih := w_f_X4_setSmall_L7 k1 σ t
    (mm_fr_wl (by simp) ih)
def f_X4_setSmall (k1 : Nat) (v1 : Int32) (M : mm_M) : mm_M :=
  let M_1 := mm_wl M k1 0 (((v1) : Int32).toInt64)
  let M_2 := f_X4_setSmall_L7 k1 M_1 9
  M_2
theorem w_f_X4_setSmall (k1 : Nat) (v1 : Int32) (M : mm_M) : mm_fr [k1] M (f_X4_setSmall k1 v1 M) := by
  unfold f_X4_setSmall
  exact ((w_f_X4_setSmall_L7 _ _ 9).on (by simp) (mm_fr_wl (by simp) (mm_fr_refl _ _)))
set_option maxHeartbeats 4000000 in
set_option maxRecDepth 100000 in
theorem c_X4_setSmall (l : Launch) (D : va_G) (b0 : Nat) (r : Nat → Nat) (M : mm_M) (k1 : Nat) (v1 : Int32) {n1 : Nat} (hk1 : k1 < 173) (hs1 : mm_sh k1 = .inl (.long, n1, true)) (hn1 : n1 < 2 ^ 31) (hp1 : 10 ≤ n1) : mm_Mv l yX4_setSmall cX4_setSmall 3 0 0 D b0 r [.ref (r (k1)), .int (v1)] M (fun M' => M' = f_X4_setSmall k1 v1 M) := by
  refine mm_enter (cc := cX4_setSmall) (nL := 3) (ret := none) (by decide) (Nat.le_of_ble_eq_true rfl) ?_
  intro p e s m args below meth c C w ls hl
  have hl : lv_has ls 3 [(0, .ref (r (k1))), (1, .int (v1))] := hl
  refine lv_aload_n C.1 C.2.1 dX4_setSmall_0 rfl (lv_at hl 0 rfl) ?_
  refine lv_iconst (v := 0) C.1 C.2.1 dX4_setSmall_1 (by decide) ?_
  refine lv_iload_n C.1 C.2.1 dX4_setSmall_2 rfl (lv_at hl 1 rfl) ?_
  refine lv_i2l (v := ((v1) : Int32).toInt64) C.1 C.2.1 dX4_setSmall_3 rfl ?_
  refine m_last C w (k := k1) (i := 0) (n := n1) (x := (((v1) : Int32).toInt64)) hk1 hs1 (by omega) hn1 dX4_setSmall_4 (fun H locs w => ?_)
  obtain ⟨M_1, eM_1⟩ : ∃ zz, zz = mm_wl M k1 0 (((v1) : Int32).toInt64) := ⟨_, rfl⟩
  rw [← eM_1] at w
  refine lv_iconst (v := 1) C.1 C.2.1 dX4_setSmall_5 (by decide) ?_
  refine lv_istore_n (lv' := [(2, .int 1), (0, .ref (r (k1))), (1, .int (v1))]) C.1 C.2.1 dX4_setSmall_6 rfl hl (by decide) rfl (fun ls hl => ?_)
  have loop : ∀ (k t : Nat), t + k = 9 → ∀ (H : Heap) (locs : List Loc) (ls : Array Slot), mm_W D b0 r (f_X4_setSmall_L7 k1 M_1 t) s H locs → lv_has ls 3 [(2, .int (nI (1 + t))), (0, .ref (r (k1))), (1, .int (v1))] → W p l e (mm_rm 0 0) s m args below meth c H locs 0 0 (MQ below (va_Qv (fun M' => M' = f_X4_setSmall k1 v1 M) (mm_U D b0 r) (fun q => b0 ≤ q)) args s 0 0 (fun q => b0 ≤ q)) (F0 m 7 ls []) := by
    intro k
    induction k with
    | zero =>
      intro t ht H locs ls w hl
      obtain rfl : 9 = t := by omega
      obtain ⟨M_2, eM_2⟩ : ∃ zz, zz = f_X4_setSmall_L7 k1 M_1 9 := ⟨_, rfl⟩
      rw [← eM_2] at w
      refine lv_iload_n C.1 C.2.1 dX4_setSmall_7 rfl (lv_at hl 0 rfl) ?_
      refine lv_bipush (v := 10) C.1 C.2.1 dX4_setSmall_8 (by decide) ?_
      refine m_icmp_ge (tgt := 23) (a := 1 + 9) (b := 10) C (by omega) (by omega) dX4_setSmall_10 (by decide) (fun _ => ?_) (fun h_3 => absurd h_3 (by omega))
      exact m_vret C w (by subst eM_1 eM_2; exact Eq.symm (rfl)) dX4_setSmall_23
    | succ k ih =>
      intro t ht H locs ls w hl
      obtain ⟨M_4, eM_4⟩ : ∃ zz, zz = f_X4_setSmall_L7 k1 M_1 t := ⟨_, rfl⟩
      rw [← eM_4] at w
      refine lv_iload_n C.1 C.2.1 dX4_setSmall_7 rfl (lv_at hl 0 rfl) ?_
      refine lv_bipush (v := 10) C.1 C.2.1 dX4_setSmall_8 (by decide) ?_
      refine m_icmp_ge (tgt := 23) (a := 1 + t) (b := 10) C (by omega) (by omega) dX4_setSmall_10 (by decide) (fun h_5 => absurd h_5 (by omega)) (fun _ => ?_)
      refine lv_aload_n C.1 C.2.1 dX4_setSmall_13 rfl (lv_at hl 1 rfl) ?_
      refine lv_iload_n C.1 C.2.1 dX4_setSmall_14 rfl (lv_at hl 0 rfl) ?_
      refine lv_lconst (v := 0) C.1 C.2.1 dX4_setSmall_15 (by decide) ?_
      refine m_last C w (k := k1) (i := 1 + t) (n := n1) (x := (0)) hk1 hs1 (by omega) hn1 dX4_setSmall_16 (fun H locs w => ?_)
      obtain ⟨M_6, eM_6⟩ : ∃ zz, zz = mm_wl M_4 k1 (1 + t) (0) := ⟨_, rfl⟩
      rw [← eM_6] at w
      refine lv_iinc (v := (nI (1 + t + 1))) (lv' := [(2, .int (nI (1 + t + 1))), (0, .ref (r (k1))), (1, .int (v1))]) C.1 C.2.1 dX4_setSmall_17 hl (k := 0) rfl (nI_add (1 + t) 1) (by decide) rfl (fun ls hl => ?_)
      refine lv_goto (tgt := 7) C.1 C.2.1 dX4_setSmall_20 (by decide) ?_
      have h9 : lv_has ls 3 [(2, .int (nI (1 + t + 1))), (0, .ref (r (k1))), (1, .int (v1))] := lv_sub hl [0, 1, 2] rfl
      rw [show ((nI (1 + t + 1)) : Int32) = (nI (1 + (t + 1))) from (by first | rfl | (congr 1; omega))] at h9
      have hlZ : lv_has ls 3 [(2, .int (nI (1 + (t + 1)))), (0, .ref (r (k1))), (1, .int (v1))] := h9
      have wZ := w
      subst eM_4 eM_6
      refine ih (t + 1) (by omega) _ _ _ (wZ) ?_
      exact hlZ
  exact loop 9 0 (by omega) _ _ ls w (by have h9 := hl; first | exact h9 | simpa using h9)

def f_X4_add_L2 (k1 : Nat) (k2 : Nat) (k3 : Nat) (σ : mm_M) : Nat → mm_M
  | 0 => σ
  | t + 1 =>
  let M_3 := f_X4_add_L2 k1 k2 k3 σ t
  let M_5 := mm_wl M_3 k1 t ((M_3.2 k2 t) + (M_3.2 k3 t))
  M_5
theorem w_f_X4_add_L2 (k1 : Nat) (k2 : Nat) (k3 : Nat) (σ : mm_M) : ∀ t : Nat, mm_fr [k1] σ (f_X4_add_L2 k1 k2 k3 σ t)
  | 0 => mm_fr_refl _ _
  | t + 1 => have ih := w_f_X4_add_L2 k1 k2 k3 σ t
    (mm_fr_wl (by simp) ih)
def f_X4_add (k1 : Nat) (k2 : Nat) (k3 : Nat) (M : mm_M) : mm_M :=
  let M_1 := f_X4_add_L2 k1 k2 k3 M 10
  M_1
theorem w_f_X4_add (k1 : Nat) (k2 : Nat) (k3 : Nat) (M : mm_M) : mm_fr [k1] M (f_X4_add k1 k2 k3 M) := by
  unfold f_X4_add
  exact ((w_f_X4_add_L2 _ _ _ _ 10).on (by simp) (mm_fr_refl _ _))
set_option maxHeartbeats 4000000 in
set_option maxRecDepth 100000 in
theorem c_X4_add (l : Launch) (D : va_G) (b0 : Nat) (r : Nat → Nat) (M : mm_M) (k1 : Nat) (k2 : Nat) (k3 : Nat) {n1 : Nat} (hk1 : k1 < 173) (hs1 : mm_sh k1 = .inl (.long, n1, true)) (hn1 : n1 < 2 ^ 31) (hp1 : 10 ≤ n1) {n2 : Nat} {w2 : Bool} (hk2 : k2 < 181) (hs2 : mm_sh k2 = .inl (.long, n2, w2)) (hn2 : n2 < 2 ^ 31) (hp2 : 10 ≤ n2) {n3 : Nat} {w3 : Bool} (hk3 : k3 < 181) (hs3 : mm_sh k3 = .inl (.long, n3, w3)) (hn3 : n3 < 2 ^ 31) (hp3 : 10 ≤ n3) : mm_Mv l yX4_add cX4_add 4 0 0 D b0 r [.ref (r (k1)), .ref (r (k2)), .ref (r (k3))] M (fun M' => M' = f_X4_add k1 k2 k3 M) := by
  refine mm_enter (cc := cX4_add) (nL := 4) (ret := none) (by decide) (Nat.le_of_ble_eq_true rfl) ?_
  intro p e s m args below meth c C w ls hl
  have hl : lv_has ls 4 [(0, .ref (r (k1))), (1, .ref (r (k2))), (2, .ref (r (k3)))] := hl
  refine lv_iconst (v := 0) C.1 C.2.1 dX4_add_0 (by decide) ?_
  refine lv_istore_n (lv' := [(3, .int 0), (0, .ref (r (k1))), (1, .ref (r (k2))), (2, .ref (r (k3)))]) C.1 C.2.1 dX4_add_1 rfl hl (by decide) rfl (fun ls hl => ?_)
  have loop : ∀ (k t : Nat), t + k = 10 → ∀ (H : Heap) (locs : List Loc) (ls : Array Slot), mm_W D b0 r (f_X4_add_L2 k1 k2 k3 M t) s H locs → lv_has ls 4 [(3, .int (nI (t))), (0, .ref (r (k1))), (1, .ref (r (k2))), (2, .ref (r (k3)))] → W p l e (mm_rm 0 0) s m args below meth c H locs 0 0 (MQ below (va_Qv (fun M' => M' = f_X4_add k1 k2 k3 M) (mm_U D b0 r) (fun q => b0 ≤ q)) args s 0 0 (fun q => b0 ≤ q)) (F0 m 2 ls []) := by
    intro k
    induction k with
    | zero =>
      intro t ht H locs ls w hl
      obtain rfl : 10 = t := by omega
      obtain ⟨M_1, eM_1⟩ : ∃ zz, zz = f_X4_add_L2 k1 k2 k3 M 10 := ⟨_, rfl⟩
      rw [← eM_1] at w
      refine lv_iload_n C.1 C.2.1 dX4_add_2 rfl (lv_at hl 0 rfl) ?_
      refine lv_bipush (v := 10) C.1 C.2.1 dX4_add_3 (by decide) ?_
      refine m_icmp_ge (tgt := 24) (a := 10) (b := 10) C (by omega) (by omega) dX4_add_5 (by decide) (fun _ => ?_) (fun h_2 => absurd h_2 (by omega))
      exact m_vret C w (by subst eM_1; exact Eq.symm (rfl)) dX4_add_24
    | succ k ih =>
      intro t ht H locs ls w hl
      obtain ⟨M_3, eM_3⟩ : ∃ zz, zz = f_X4_add_L2 k1 k2 k3 M t := ⟨_, rfl⟩
      rw [← eM_3] at w
      refine lv_iload_n C.1 C.2.1 dX4_add_2 rfl (lv_at hl 0 rfl) ?_
      refine lv_bipush (v := 10) C.1 C.2.1 dX4_add_3 (by decide) ?_
      refine m_icmp_ge (tgt := 24) (a := t) (b := 10) C (by omega) (by omega) dX4_add_5 (by decide) (fun h_4 => absurd h_4 (by omega)) (fun _ => ?_)
      refine lv_aload_n C.1 C.2.1 dX4_add_8 rfl (lv_at hl 1 rfl) ?_
      refine lv_iload_n C.1 C.2.1 dX4_add_9 rfl (lv_at hl 0 rfl) ?_
      refine lv_aload_n C.1 C.2.1 dX4_add_10 rfl (lv_at hl 2 rfl) ?_
      refine lv_iload_n C.1 C.2.1 dX4_add_11 rfl (lv_at hl 0 rfl) ?_
      refine m_lald C w (k := k2) (i := t) (n := n2) (wr := w2) hk2 hs2 (by omega) hn2 dX4_add_12 ?_
      refine lv_aload_n C.1 C.2.1 dX4_add_13 rfl (lv_at hl 3 rfl) ?_
      refine lv_iload_n C.1 C.2.1 dX4_add_14 rfl (lv_at hl 0 rfl) ?_
      refine m_lald C w (k := k3) (i := t) (n := n3) (wr := w3) hk3 hs3 (by omega) hn3 dX4_add_15 ?_
      refine lv_ladd C.1 C.2.1 dX4_add_16 ?_
      refine m_last C w (k := k1) (i := t) (n := n1) (x := ((M_3.2 k2 t) + (M_3.2 k3 t))) hk1 hs1 (by omega) hn1 dX4_add_17 (fun H locs w => ?_)
      obtain ⟨M_5, eM_5⟩ : ∃ zz, zz = mm_wl M_3 k1 t ((M_3.2 k2 t) + (M_3.2 k3 t)) := ⟨_, rfl⟩
      rw [← eM_5] at w
      refine lv_iinc (v := (nI (t + 1))) (lv' := [(3, .int (nI (t + 1))), (0, .ref (r (k1))), (1, .ref (r (k2))), (2, .ref (r (k3)))]) C.1 C.2.1 dX4_add_18 hl (k := 0) rfl (nI_add t 1) (by decide) rfl (fun ls hl => ?_)
      refine lv_goto (tgt := 2) C.1 C.2.1 dX4_add_21 (by decide) ?_
      have h9 : lv_has ls 4 [(3, .int (nI (t + 1))), (0, .ref (r (k1))), (1, .ref (r (k2))), (2, .ref (r (k3)))] := lv_sub hl [0, 1, 2, 3] rfl
      have hlZ : lv_has ls 4 [(3, .int (nI (t + 1))), (0, .ref (r (k1))), (1, .ref (r (k2))), (2, .ref (r (k3)))] := h9
      have wZ := w
      subst eM_3 eM_5
      refine ih (t + 1) (by omega) _ _ _ (wZ) ?_
      exact hlZ
  exact loop 10 0 (by omega) _ _ ls w hl

def f_X4_subtract_L2 (k1 : Nat) (k2 : Nat) (k3 : Nat) (σ : mm_M) : Nat → mm_M
  | 0 => σ
  | t + 1 =>
  let M_3 := f_X4_subtract_L2 k1 k2 k3 σ t
  let M_5 := mm_wl M_3 k1 t ((M_3.2 k2 t) - (M_3.2 k3 t))
  M_5
theorem w_f_X4_subtract_L2 (k1 : Nat) (k2 : Nat) (k3 : Nat) (σ : mm_M) : ∀ t : Nat, mm_fr [k1] σ (f_X4_subtract_L2 k1 k2 k3 σ t)
  | 0 => mm_fr_refl _ _
  | t + 1 => have ih := w_f_X4_subtract_L2 k1 k2 k3 σ t
    (mm_fr_wl (by simp) ih)
def f_X4_subtract (k1 : Nat) (k2 : Nat) (k3 : Nat) (M : mm_M) : mm_M :=
  let M_1 := f_X4_subtract_L2 k1 k2 k3 M 10
  M_1
theorem w_f_X4_subtract (k1 : Nat) (k2 : Nat) (k3 : Nat) (M : mm_M) : mm_fr [k1] M (f_X4_subtract k1 k2 k3 M) := by
  unfold f_X4_subtract
  exact ((w_f_X4_subtract_L2 _ _ _ _ 10).on (by simp) (mm_fr_refl _ _))
set_option maxHeartbeats 4000000 in
set_option maxRecDepth 100000 in
theorem c_X4_subtract (l : Launch) (D : va_G) (b0 : Nat) (r : Nat → Nat) (M : mm_M) (k1 : Nat) (k2 : Nat) (k3 : Nat) {n1 : Nat} (hk1 : k1 < 173) (hs1 : mm_sh k1 = .inl (.long, n1, true)) (hn1 : n1 < 2 ^ 31) (hp1 : 10 ≤ n1) {n2 : Nat} {w2 : Bool} (hk2 : k2 < 181) (hs2 : mm_sh k2 = .inl (.long, n2, w2)) (hn2 : n2 < 2 ^ 31) (hp2 : 10 ≤ n2) {n3 : Nat} {w3 : Bool} (hk3 : k3 < 181) (hs3 : mm_sh k3 = .inl (.long, n3, w3)) (hn3 : n3 < 2 ^ 31) (hp3 : 10 ≤ n3) : mm_Mv l yX4_subtract cX4_subtract 4 0 0 D b0 r [.ref (r (k1)), .ref (r (k2)), .ref (r (k3))] M (fun M' => M' = f_X4_subtract k1 k2 k3 M) := by
  refine mm_enter (cc := cX4_subtract) (nL := 4) (ret := none) (by decide) (Nat.le_of_ble_eq_true rfl) ?_
  intro p e s m args below meth c C w ls hl
  have hl : lv_has ls 4 [(0, .ref (r (k1))), (1, .ref (r (k2))), (2, .ref (r (k3)))] := hl
  refine lv_iconst (v := 0) C.1 C.2.1 dX4_subtract_0 (by decide) ?_
  refine lv_istore_n (lv' := [(3, .int 0), (0, .ref (r (k1))), (1, .ref (r (k2))), (2, .ref (r (k3)))]) C.1 C.2.1 dX4_subtract_1 rfl hl (by decide) rfl (fun ls hl => ?_)
  have loop : ∀ (k t : Nat), t + k = 10 → ∀ (H : Heap) (locs : List Loc) (ls : Array Slot), mm_W D b0 r (f_X4_subtract_L2 k1 k2 k3 M t) s H locs → lv_has ls 4 [(3, .int (nI (t))), (0, .ref (r (k1))), (1, .ref (r (k2))), (2, .ref (r (k3)))] → W p l e (mm_rm 0 0) s m args below meth c H locs 0 0 (MQ below (va_Qv (fun M' => M' = f_X4_subtract k1 k2 k3 M) (mm_U D b0 r) (fun q => b0 ≤ q)) args s 0 0 (fun q => b0 ≤ q)) (F0 m 2 ls []) := by
    intro k
    induction k with
    | zero =>
      intro t ht H locs ls w hl
      obtain rfl : 10 = t := by omega
      obtain ⟨M_1, eM_1⟩ : ∃ zz, zz = f_X4_subtract_L2 k1 k2 k3 M 10 := ⟨_, rfl⟩
      rw [← eM_1] at w
      refine lv_iload_n C.1 C.2.1 dX4_subtract_2 rfl (lv_at hl 0 rfl) ?_
      refine lv_bipush (v := 10) C.1 C.2.1 dX4_subtract_3 (by decide) ?_
      refine m_icmp_ge (tgt := 24) (a := 10) (b := 10) C (by omega) (by omega) dX4_subtract_5 (by decide) (fun _ => ?_) (fun h_2 => absurd h_2 (by omega))
      exact m_vret C w (by subst eM_1; exact Eq.symm (rfl)) dX4_subtract_24
    | succ k ih =>
      intro t ht H locs ls w hl
      obtain ⟨M_3, eM_3⟩ : ∃ zz, zz = f_X4_subtract_L2 k1 k2 k3 M t := ⟨_, rfl⟩
      rw [← eM_3] at w
      refine lv_iload_n C.1 C.2.1 dX4_subtract_2 rfl (lv_at hl 0 rfl) ?_
      refine lv_bipush (v := 10) C.1 C.2.1 dX4_subtract_3 (by decide) ?_
      refine m_icmp_ge (tgt := 24) (a := t) (b := 10) C (by omega) (by omega) dX4_subtract_5 (by decide) (fun h_4 => absurd h_4 (by omega)) (fun _ => ?_)
      refine lv_aload_n C.1 C.2.1 dX4_subtract_8 rfl (lv_at hl 1 rfl) ?_
      refine lv_iload_n C.1 C.2.1 dX4_subtract_9 rfl (lv_at hl 0 rfl) ?_
      refine lv_aload_n C.1 C.2.1 dX4_subtract_10 rfl (lv_at hl 2 rfl) ?_
      refine lv_iload_n C.1 C.2.1 dX4_subtract_11 rfl (lv_at hl 0 rfl) ?_
      refine m_lald C w (k := k2) (i := t) (n := n2) (wr := w2) hk2 hs2 (by omega) hn2 dX4_subtract_12 ?_
      refine lv_aload_n C.1 C.2.1 dX4_subtract_13 rfl (lv_at hl 3 rfl) ?_
      refine lv_iload_n C.1 C.2.1 dX4_subtract_14 rfl (lv_at hl 0 rfl) ?_
      refine m_lald C w (k := k3) (i := t) (n := n3) (wr := w3) hk3 hs3 (by omega) hn3 dX4_subtract_15 ?_
      refine lv_lsub C.1 C.2.1 dX4_subtract_16 ?_
      refine m_last C w (k := k1) (i := t) (n := n1) (x := ((M_3.2 k2 t) - (M_3.2 k3 t))) hk1 hs1 (by omega) hn1 dX4_subtract_17 (fun H locs w => ?_)
      obtain ⟨M_5, eM_5⟩ : ∃ zz, zz = mm_wl M_3 k1 t ((M_3.2 k2 t) - (M_3.2 k3 t)) := ⟨_, rfl⟩
      rw [← eM_5] at w
      refine lv_iinc (v := (nI (t + 1))) (lv' := [(3, .int (nI (t + 1))), (0, .ref (r (k1))), (1, .ref (r (k2))), (2, .ref (r (k3)))]) C.1 C.2.1 dX4_subtract_18 hl (k := 0) rfl (nI_add t 1) (by decide) rfl (fun ls hl => ?_)
      refine lv_goto (tgt := 2) C.1 C.2.1 dX4_subtract_21 (by decide) ?_
      have h9 : lv_has ls 4 [(3, .int (nI (t + 1))), (0, .ref (r (k1))), (1, .ref (r (k2))), (2, .ref (r (k3)))] := lv_sub hl [0, 1, 2, 3] rfl
      have hlZ : lv_has ls 4 [(3, .int (nI (t + 1))), (0, .ref (r (k1))), (1, .ref (r (k2))), (2, .ref (r (k3)))] := h9
      have wZ := w
      subst eM_3 eM_5
      refine ih (t + 1) (by omega) _ _ _ (wZ) ?_
      exact hlZ
  exact loop 10 0 (by omega) _ _ ls w hl

def f_X4_carry_L4 (k1 : Nat) (σ : mm_M × Int64) : Nat → mm_M × Int64
  | 0 => σ
  | t + 1 =>
  let M_8 := (f_X4_carry_L4 k1 σ t).1
  let y_9 := (f_X4_carry_L4 k1 σ t).2
  let x4_11 := (M_8.2 k1 (t * 2)) + (y_9)
  let x1_12 := ((x4_11) + (33554432)) >>> (((26 : Int32)).toInt64 &&& 63)
  let M_13 := mm_wl M_8 k1 (t * 2) ((x4_11) - ((x1_12) <<< (((26 : Int32)).toInt64 &&& 63)))
  let x6_14 := (M_13.2 k1 (t * 2 + 1)) + (x1_12)
  let x1_15 := ((x6_14) + (16777216)) >>> (((25 : Int32)).toInt64 &&& 63)
  let M_16 := mm_wl M_13 k1 (t * 2 + 1) ((x6_14) - ((x1_15) <<< (((25 : Int32)).toInt64 &&& 63)))
  (M_16, (x1_15))
theorem w_f_X4_carry_L4 (k1 : Nat) (σ : mm_M × Int64) : ∀ t : Nat, mm_fr1 [k1] σ.1 (f_X4_carry_L4 k1 σ t)
  | 0 => mm_fr_refl _ _
  | t + 1 => have ih := (w_f_X4_carry_L4 k1 σ t).m
    (mm_fr_wl (by simp) (mm_fr_wl (by simp) ih)).a
def f_X4_carry (k1 : Nat) (M : mm_M) : mm_M :=
  let M_1 := (f_X4_carry_L4 k1 (M, (0)) 5).1
  let y_2 := (f_X4_carry_L4 k1 (M, (0)) 5).2
  let M_4 := mm_wl M_1 k1 0 ((M_1.2 k1 0) + ((19) * (y_2)))
  let x1_5 := ((M_4.2 k1 0) + (33554432)) >>> (((26 : Int32)).toInt64 &&& 63)
  let M_6 := mm_wl M_4 k1 0 ((M_4.2 k1 0) - ((x1_5) <<< (((26 : Int32)).toInt64 &&& 63)))
  let M_7 := mm_wl M_6 k1 1 ((M_6.2 k1 1) + (x1_5))
  M_7
theorem w_f_X4_carry (k1 : Nat) (M : mm_M) : mm_fr [k1] M (f_X4_carry k1 M) := by
  unfold f_X4_carry
  exact (mm_fr_wl (by simp) (mm_fr_wl (by simp) (mm_fr_wl (by simp) ((w_f_X4_carry_L4 _ _ 5).m.on (by simp) (mm_fr_refl _ _)))))
set_option maxHeartbeats 4000000 in
set_option maxRecDepth 100000 in
theorem c_X4_carry (l : Launch) (D : va_G) (b0 : Nat) (r : Nat → Nat) (M : mm_M) (k1 : Nat) {n1 : Nat} (hk1 : k1 < 173) (hs1 : mm_sh k1 = .inl (.long, n1, true)) (hn1 : n1 < 2 ^ 31) (hp1 : 10 ≤ n1) : mm_Mv l yX4_carry cX4_carry 8 0 0 D b0 r [.ref (r (k1))] M (fun M' => M' = f_X4_carry k1 M) := by
  refine mm_enter (cc := cX4_carry) (nL := 8) (ret := none) (by decide) (Nat.le_of_ble_eq_true rfl) ?_
  intro p e s m args below meth c C w ls hl
  have hl : lv_has ls 8 [(0, .ref (r (k1)))] := hl
  refine lv_lconst (v := 0) C.1 C.2.1 dX4_carry_0 (by decide) ?_
  refine lv_lstore_n (lv' := [(1, .long (0)), (0, .ref (r (k1)))]) C.1 C.2.1 dX4_carry_1 rfl hl (by decide) rfl (fun ls hl => ?_)
  refine lv_iconst (v := 0) C.1 C.2.1 dX4_carry_2 (by decide) ?_
  refine lv_istore_n (lv' := [(3, .int 0), (1, .long (0)), (0, .ref (r (k1)))]) C.1 C.2.1 dX4_carry_3 rfl hl (by decide) rfl (fun ls hl => ?_)
  have loop : ∀ (k t : Nat), t + k = 5 → ∀ (H : Heap) (locs : List Loc) (ls : Array Slot), mm_W D b0 r ((f_X4_carry_L4 k1 (M, (0)) t).1) s H locs → lv_has ls 8 [(3, .int (nI (t * 2))), (1, .long ((f_X4_carry_L4 k1 (M, (0)) t).2)), (0, .ref (r (k1)))] → W p l e (mm_rm 0 0) s m args below meth c H locs 0 0 (MQ below (va_Qv (fun M' => M' = f_X4_carry k1 M) (mm_U D b0 r) (fun q => b0 ≤ q)) args s 0 0 (fun q => b0 ≤ q)) (F0 m 4 ls []) := by
    intro k
    induction k with
    | zero =>
      intro t ht H locs ls w hl
      obtain rfl : 5 = t := by omega
      obtain ⟨M_1, eM_1⟩ : ∃ zz, zz = (f_X4_carry_L4 k1 (M, (0)) 5).1 := ⟨_, rfl⟩
      rw [← eM_1] at w
      obtain ⟨y_2, ey_2⟩ : ∃ zz, zz = (f_X4_carry_L4 k1 (M, (0)) 5).2 := ⟨_, rfl⟩
      rw [← ey_2] at hl
      refine lv_iload_n C.1 C.2.1 dX4_carry_4 rfl (lv_at hl 0 rfl) ?_
      refine lv_bipush (v := 10) C.1 C.2.1 dX4_carry_5 (by decide) ?_
      refine m_icmp_ge (tgt := 74) (a := 5 * 2) (b := 10) C (by omega) (by omega) dX4_carry_7 (by decide) (fun _ => ?_) (fun h_3 => absurd h_3 (by omega))
      refine lv_aload_n C.1 C.2.1 dX4_carry_74 rfl (lv_at hl 2 rfl) ?_
      refine lv_iconst (v := 0) C.1 C.2.1 dX4_carry_75 (by decide) ?_
      refine lv_dup2_11 C.1 C.2.1 dX4_carry_76 rfl rfl ?_
      refine m_lald C w (k := k1) (i := 0) (n := n1) (wr := true) (Nat.lt_trans hk1 (by decide)) hs1 (by omega) hn1 dX4_carry_77 ?_
      refine lv_ldc2 (v := (19)) C.1 C.2.1 C.2.2.2.1 (C.2.2.2.2.1 _ klX4_117) dX4_carry_78 ?_
      refine lv_lload_n C.1 C.2.1 dX4_carry_81 rfl (lv_at hl 1 rfl) ?_
      refine lv_lmul C.1 C.2.1 dX4_carry_82 ?_
      refine lv_ladd C.1 C.2.1 dX4_carry_83 ?_
      refine m_last C w (k := k1) (i := 0) (n := n1) (x := ((M_1.2 k1 0) + ((19) * (y_2)))) hk1 hs1 (by omega) hn1 dX4_carry_84 (fun H locs w => ?_)
      obtain ⟨M_4, eM_4⟩ : ∃ zz, zz = mm_wl M_1 k1 0 ((M_1.2 k1 0) + ((19) * (y_2))) := ⟨_, rfl⟩
      rw [← eM_4] at w
      refine lv_aload_n C.1 C.2.1 dX4_carry_85 rfl (lv_at hl 2 rfl) ?_
      refine lv_iconst (v := 0) C.1 C.2.1 dX4_carry_86 (by decide) ?_
      refine m_lald C w (k := k1) (i := 0) (n := n1) (wr := true) (Nat.lt_trans hk1 (by decide)) hs1 (by omega) hn1 dX4_carry_87 ?_
      refine lv_ldc2 (v := (33554432)) C.1 C.2.1 C.2.2.2.1 (C.2.2.2.2.1 _ klX4_119) dX4_carry_88 ?_
      refine lv_ladd C.1 C.2.1 dX4_carry_91 ?_
      refine lv_bipush (v := 26) C.1 C.2.1 dX4_carry_92 (by decide) ?_
      refine lv_lshr (v := ((M_4.2 k1 0) + (33554432)) >>> (((26 : Int32)).toInt64 &&& 63)) C.1 C.2.1 dX4_carry_94 rfl ?_
      refine lv_topl (fun x1_5 ex1_5 => ?_)
      refine lv_lstore_n (lv' := [(1, .long (x1_5)), (3, .int (nI (5 * 2))), (0, .ref (r (k1)))]) C.1 C.2.1 dX4_carry_95 rfl hl (by decide) rfl (fun ls hl => ?_)
      refine lv_aload_n C.1 C.2.1 dX4_carry_96 rfl (lv_at hl 2 rfl) ?_
      refine lv_iconst (v := 0) C.1 C.2.1 dX4_carry_97 (by decide) ?_
      refine lv_dup2_11 C.1 C.2.1 dX4_carry_98 rfl rfl ?_
      refine m_lald C w (k := k1) (i := 0) (n := n1) (wr := true) (Nat.lt_trans hk1 (by decide)) hs1 (by omega) hn1 dX4_carry_99 ?_
      refine lv_lload_n C.1 C.2.1 dX4_carry_100 rfl (lv_at hl 0 rfl) ?_
      refine lv_bipush (v := 26) C.1 C.2.1 dX4_carry_101 (by decide) ?_
      refine lv_lshl (v := (x1_5) <<< (((26 : Int32)).toInt64 &&& 63)) C.1 C.2.1 dX4_carry_103 rfl ?_
      refine lv_lsub C.1 C.2.1 dX4_carry_104 ?_
      refine m_last C w (k := k1) (i := 0) (n := n1) (x := ((M_4.2 k1 0) - ((x1_5) <<< (((26 : Int32)).toInt64 &&& 63)))) hk1 hs1 (by omega) hn1 dX4_carry_105 (fun H locs w => ?_)
      obtain ⟨M_6, eM_6⟩ : ∃ zz, zz = mm_wl M_4 k1 0 ((M_4.2 k1 0) - ((x1_5) <<< (((26 : Int32)).toInt64 &&& 63))) := ⟨_, rfl⟩
      rw [← eM_6] at w
      refine lv_aload_n C.1 C.2.1 dX4_carry_106 rfl (lv_at hl 2 rfl) ?_
      refine lv_iconst (v := 1) C.1 C.2.1 dX4_carry_107 (by decide) ?_
      refine lv_dup2_11 C.1 C.2.1 dX4_carry_108 rfl rfl ?_
      refine m_lald C w (k := k1) (i := 1) (n := n1) (wr := true) (Nat.lt_trans hk1 (by decide)) hs1 (by omega) hn1 dX4_carry_109 ?_
      refine lv_lload_n C.1 C.2.1 dX4_carry_110 rfl (lv_at hl 0 rfl) ?_
      refine lv_ladd C.1 C.2.1 dX4_carry_111 ?_
      refine m_last C w (k := k1) (i := 1) (n := n1) (x := ((M_6.2 k1 1) + (x1_5))) hk1 hs1 (by omega) hn1 dX4_carry_112 (fun H locs w => ?_)
      obtain ⟨M_7, eM_7⟩ : ∃ zz, zz = mm_wl M_6 k1 1 ((M_6.2 k1 1) + (x1_5)) := ⟨_, rfl⟩
      rw [← eM_7] at w
      exact m_vret C w (by subst eM_1 ey_2 eM_4 ex1_5 eM_6 eM_7; exact Eq.symm (rfl)) dX4_carry_113
    | succ k ih =>
      intro t ht H locs ls w hl
      obtain ⟨M_8, eM_8⟩ : ∃ zz, zz = (f_X4_carry_L4 k1 (M, (0)) t).1 := ⟨_, rfl⟩
      rw [← eM_8] at w
      obtain ⟨y_9, ey_9⟩ : ∃ zz, zz = (f_X4_carry_L4 k1 (M, (0)) t).2 := ⟨_, rfl⟩
      rw [← ey_9] at hl
      refine lv_iload_n C.1 C.2.1 dX4_carry_4 rfl (lv_at hl 0 rfl) ?_
      refine lv_bipush (v := 10) C.1 C.2.1 dX4_carry_5 (by decide) ?_
      refine m_icmp_ge (tgt := 74) (a := t * 2) (b := 10) C (by omega) (by omega) dX4_carry_7 (by decide) (fun h_10 => absurd h_10 (by omega)) (fun _ => ?_)
      refine lv_aload_n C.1 C.2.1 dX4_carry_10 rfl (lv_at hl 2 rfl) ?_
      refine lv_iload_n C.1 C.2.1 dX4_carry_11 rfl (lv_at hl 0 rfl) ?_
      refine m_lald C w (k := k1) (i := t * 2) (n := n1) (wr := true) (Nat.lt_trans hk1 (by decide)) hs1 (by omega) hn1 dX4_carry_12 ?_
      refine lv_lload_n C.1 C.2.1 dX4_carry_13 rfl (lv_at hl 1 rfl) ?_
      refine lv_ladd C.1 C.2.1 dX4_carry_14 ?_
      refine lv_topl (fun x4_11 ex4_11 => ?_)
      refine lv_lstore (lv' := [(4, .long (x4_11)), (3, .int (nI (t * 2))), (1, .long (y_9)), (0, .ref (r (k1)))]) C.1 C.2.1 dX4_carry_15 hl (by decide) rfl (fun ls hl => ?_)
      refine lv_lload C.1 C.2.1 dX4_carry_17 (lv_at hl 0 rfl) ?_
      refine lv_ldc2 (v := (33554432)) C.1 C.2.1 C.2.2.2.1 (C.2.2.2.2.1 _ klX4_119) dX4_carry_19 ?_
      refine lv_ladd C.1 C.2.1 dX4_carry_22 ?_
      refine lv_bipush (v := 26) C.1 C.2.1 dX4_carry_23 (by decide) ?_
      refine lv_lshr (v := ((x4_11) + (33554432)) >>> (((26 : Int32)).toInt64 &&& 63)) C.1 C.2.1 dX4_carry_25 rfl ?_
      refine lv_topl (fun x1_12 ex1_12 => ?_)
      refine lv_lstore_n (lv' := [(1, .long (x1_12)), (4, .long (x4_11)), (3, .int (nI (t * 2))), (0, .ref (r (k1)))]) C.1 C.2.1 dX4_carry_26 rfl hl (by decide) rfl (fun ls hl => ?_)
      refine lv_aload_n C.1 C.2.1 dX4_carry_27 rfl (lv_at hl 3 rfl) ?_
      refine lv_iload_n C.1 C.2.1 dX4_carry_28 rfl (lv_at hl 2 rfl) ?_
      refine lv_lload C.1 C.2.1 dX4_carry_29 (lv_at hl 1 rfl) ?_
      refine lv_lload_n C.1 C.2.1 dX4_carry_31 rfl (lv_at hl 0 rfl) ?_
      refine lv_bipush (v := 26) C.1 C.2.1 dX4_carry_32 (by decide) ?_
      refine lv_lshl (v := (x1_12) <<< (((26 : Int32)).toInt64 &&& 63)) C.1 C.2.1 dX4_carry_34 rfl ?_
      refine lv_lsub C.1 C.2.1 dX4_carry_35 ?_
      refine m_last C w (k := k1) (i := t * 2) (n := n1) (x := ((x4_11) - ((x1_12) <<< (((26 : Int32)).toInt64 &&& 63)))) hk1 hs1 (by omega) hn1 dX4_carry_36 (fun H locs w => ?_)
      obtain ⟨M_13, eM_13⟩ : ∃ zz, zz = mm_wl M_8 k1 (t * 2) ((x4_11) - ((x1_12) <<< (((26 : Int32)).toInt64 &&& 63))) := ⟨_, rfl⟩
      rw [← eM_13] at w
      refine lv_aload_n C.1 C.2.1 dX4_carry_37 rfl (lv_at hl 3 rfl) ?_
      refine lv_iload_n C.1 C.2.1 dX4_carry_38 rfl (lv_at hl 2 rfl) ?_
      refine lv_iconst (v := 1) C.1 C.2.1 dX4_carry_39 (by decide) ?_
      refine lv_iadd C.1 C.2.1 dX4_carry_40 ?_
      refine m_i (y := nI (t * 2 + 1)) (nI_add (t * 2) 1) ?_
      refine m_lald C w (k := k1) (i := t * 2 + 1) (n := n1) (wr := true) (Nat.lt_trans hk1 (by decide)) hs1 (by omega) hn1 dX4_carry_41 ?_
      refine lv_lload_n C.1 C.2.1 dX4_carry_42 rfl (lv_at hl 0 rfl) ?_
      refine lv_ladd C.1 C.2.1 dX4_carry_43 ?_
      refine lv_topl (fun x6_14 ex6_14 => ?_)
      refine lv_lstore (lv' := [(6, .long (x6_14)), (1, .long (x1_12)), (4, .long (x4_11)), (3, .int (nI (t * 2))), (0, .ref (r (k1)))]) C.1 C.2.1 dX4_carry_44 hl (by decide) rfl (fun ls hl => ?_)
      refine lv_lload C.1 C.2.1 dX4_carry_46 (lv_at hl 0 rfl) ?_
      refine lv_ldc2 (v := (16777216)) C.1 C.2.1 C.2.2.2.1 (C.2.2.2.2.1 _ klX4_121) dX4_carry_48 ?_
      refine lv_ladd C.1 C.2.1 dX4_carry_51 ?_
      refine lv_bipush (v := 25) C.1 C.2.1 dX4_carry_52 (by decide) ?_
      refine lv_lshr (v := ((x6_14) + (16777216)) >>> (((25 : Int32)).toInt64 &&& 63)) C.1 C.2.1 dX4_carry_54 rfl ?_
      refine lv_topl (fun x1_15 ex1_15 => ?_)
      refine lv_lstore_n (lv' := [(1, .long (x1_15)), (6, .long (x6_14)), (4, .long (x4_11)), (3, .int (nI (t * 2))), (0, .ref (r (k1)))]) C.1 C.2.1 dX4_carry_55 rfl hl (by decide) rfl (fun ls hl => ?_)
      refine lv_aload_n C.1 C.2.1 dX4_carry_56 rfl (lv_at hl 4 rfl) ?_
      refine lv_iload_n C.1 C.2.1 dX4_carry_57 rfl (lv_at hl 3 rfl) ?_
      refine lv_iconst (v := 1) C.1 C.2.1 dX4_carry_58 (by decide) ?_
      refine lv_iadd C.1 C.2.1 dX4_carry_59 ?_
      refine m_i (y := nI (t * 2 + 1)) (nI_add (t * 2) 1) ?_
      refine lv_lload C.1 C.2.1 dX4_carry_60 (lv_at hl 1 rfl) ?_
      refine lv_lload_n C.1 C.2.1 dX4_carry_62 rfl (lv_at hl 0 rfl) ?_
      refine lv_bipush (v := 25) C.1 C.2.1 dX4_carry_63 (by decide) ?_
      refine lv_lshl (v := (x1_15) <<< (((25 : Int32)).toInt64 &&& 63)) C.1 C.2.1 dX4_carry_65 rfl ?_
      refine lv_lsub C.1 C.2.1 dX4_carry_66 ?_
      refine m_last C w (k := k1) (i := t * 2 + 1) (n := n1) (x := ((x6_14) - ((x1_15) <<< (((25 : Int32)).toInt64 &&& 63)))) hk1 hs1 (by omega) hn1 dX4_carry_67 (fun H locs w => ?_)
      obtain ⟨M_16, eM_16⟩ : ∃ zz, zz = mm_wl M_13 k1 (t * 2 + 1) ((x6_14) - ((x1_15) <<< (((25 : Int32)).toInt64 &&& 63))) := ⟨_, rfl⟩
      rw [← eM_16] at w
      refine lv_iinc (v := (nI (t * 2 + 2))) (lv' := [(3, .int (nI (t * 2 + 2))), (1, .long (x1_15)), (6, .long (x6_14)), (4, .long (x4_11)), (0, .ref (r (k1)))]) C.1 C.2.1 dX4_carry_68 hl (k := 3) rfl (nI_add (t * 2) 2) (by decide) rfl (fun ls hl => ?_)
      refine lv_goto (tgt := 4) C.1 C.2.1 dX4_carry_71 (by decide) ?_
      have h9 : lv_has ls 8 [(3, .int (nI (t * 2 + 2))), (1, .long (x1_15)), (0, .ref (r (k1)))] := lv_sub hl [0, 1, 4] rfl
      rw [show ((nI (t * 2 + 2)) : Int32) = (nI ((t + 1) * 2)) from (by first | rfl | (congr 1; omega))] at h9
      have hlZ : lv_has ls 8 [(3, .int (nI ((t + 1) * 2))), (1, .long (x1_15)), (0, .ref (r (k1)))] := h9
      have wZ := w
      subst eM_8 ey_9 ex4_11 ex1_12 eM_13 ex6_14 ex1_15 eM_16
      refine ih (t + 1) (by omega) _ _ _ (wZ) ?_
      exact hlZ
  exact loop 5 0 (by omega) _ _ ls w (by have h9 := hl; first | exact h9 | simpa using h9)

def f_X4_scale_L3 (k1 : Nat) (k2 : Nat) (v1 : Int64) (σ : mm_M) : Nat → mm_M
  | 0 => σ
  | t + 1 =>
  let M_4 := f_X4_scale_L3 k1 k2 v1 σ t
  let M_6 := mm_wl M_4 k1 t ((M_4.2 k2 t) * (v1))
  M_6
theorem w_f_X4_scale_L3 (k1 : Nat) (k2 : Nat) (v1 : Int64) (σ : mm_M) : ∀ t : Nat, mm_fr [k1] σ (f_X4_scale_L3 k1 k2 v1 σ t)
  | 0 => mm_fr_refl _ _
  | t + 1 => have ih := w_f_X4_scale_L3 k1 k2 v1 σ t
    (mm_fr_wl (by simp) ih)
def f_X4_scale (k1 : Nat) (k2 : Nat) (v1 : Int64) (M : mm_M) : mm_M :=
  let M_1 := f_X4_scale_L3 k1 k2 v1 M 10
  let M_3 := f_X4_carry k1 M_1
  M_3
theorem w_f_X4_scale (k1 : Nat) (k2 : Nat) (v1 : Int64) (M : mm_M) : mm_fr [k1] M (f_X4_scale k1 k2 v1 M) := by
  unfold f_X4_scale
  exact ((w_f_X4_carry _ _).on (by simp) ((w_f_X4_scale_L3 _ _ _ _ 10).on (by simp) (mm_fr_refl _ _)))
set_option maxHeartbeats 4000000 in
set_option maxRecDepth 100000 in
theorem c_X4_scale (l : Launch) (D : va_G) (b0 : Nat) (r : Nat → Nat) (M : mm_M) (k1 : Nat) (k2 : Nat) (v1 : Int64) {n1 : Nat} (hk1 : k1 < 173) (hs1 : mm_sh k1 = .inl (.long, n1, true)) (hn1 : n1 < 2 ^ 31) (hp1 : 10 ≤ n1) {n2 : Nat} {w2 : Bool} (hk2 : k2 < 181) (hs2 : mm_sh k2 = .inl (.long, n2, w2)) (hn2 : n2 < 2 ^ 31) (hp2 : 10 ≤ n2) : mm_Mv l yX4_scale cX4_scale 5 1 27 D b0 r [.ref (r (k1)), .ref (r (k2)), .long (v1)] M (fun M' => M' = f_X4_scale k1 k2 v1 M) := by
  refine mm_enter (cc := cX4_scale) (nL := 5) (ret := none) (by decide) (Nat.le_of_ble_eq_true rfl) ?_
  intro p e s m args below meth c C w ls hl
  have hl : lv_has ls 5 [(0, .ref (r (k1))), (1, .ref (r (k2))), (2, .long (v1))] := hl
  refine lv_iconst (v := 0) C.1 C.2.1 dX4_scale_0 (by decide) ?_
  refine lv_istore (lv' := [(4, .int 0), (0, .ref (r (k1))), (1, .ref (r (k2))), (2, .long (v1))]) C.1 C.2.1 dX4_scale_1 hl (by decide) rfl (fun ls hl => ?_)
  have loop : ∀ (k t : Nat), t + k = 10 → ∀ (H : Heap) (locs : List Loc) (ls : Array Slot), mm_W D b0 r (f_X4_scale_L3 k1 k2 v1 M t) s H locs → lv_has ls 5 [(4, .int (nI (t))), (0, .ref (r (k1))), (1, .ref (r (k2))), (2, .long (v1))] → W p l e (mm_rm 1 27) s m args below meth c H locs 0 0 (MQ below (va_Qv (fun M' => M' = f_X4_scale k1 k2 v1 M) (mm_U D b0 r) (fun q => b0 ≤ q)) args s 0 0 (fun q => b0 ≤ q)) (F0 m 3 ls []) := by
    intro k
    induction k with
    | zero =>
      intro t ht H locs ls w hl
      obtain rfl : 10 = t := by omega
      obtain ⟨M_1, eM_1⟩ : ∃ zz, zz = f_X4_scale_L3 k1 k2 v1 M 10 := ⟨_, rfl⟩
      rw [← eM_1] at w
      refine lv_iload C.1 C.2.1 dX4_scale_3 (lv_at hl 0 rfl) ?_
      refine lv_bipush (v := 10) C.1 C.2.1 dX4_scale_5 (by decide) ?_
      refine m_icmp_ge (tgt := 26) (a := 10) (b := 10) C (by omega) (by omega) dX4_scale_7 (by decide) (fun _ => ?_) (fun h_2 => absurd h_2 (by omega))
      refine lv_aload_n C.1 C.2.1 dX4_scale_26 rfl (lv_at hl 1 rfl) ?_
      refine m_csv C w hl csX4_112 (As := [.ref (r (k1))]) (rest := []) (c_X4_carry l D b0 r M_1 k1 hk1 hs1 hn1 (by omega)) rfl rfl (Nat.le_of_ble_eq_true rfl) ⟨Nat.le_of_ble_eq_true rfl, Nat.le_of_ble_eq_true rfl⟩ ⟨Nat.zero_le _, Nat.zero_le _⟩ dX4_scale_27 (fun M_3 H locs eM_3 w => ?_)
      exact m_vret C w (by subst eM_1 eM_3; exact Eq.symm (rfl)) dX4_scale_30
    | succ k ih =>
      intro t ht H locs ls w hl
      obtain ⟨M_4, eM_4⟩ : ∃ zz, zz = f_X4_scale_L3 k1 k2 v1 M t := ⟨_, rfl⟩
      rw [← eM_4] at w
      refine lv_iload C.1 C.2.1 dX4_scale_3 (lv_at hl 0 rfl) ?_
      refine lv_bipush (v := 10) C.1 C.2.1 dX4_scale_5 (by decide) ?_
      refine m_icmp_ge (tgt := 26) (a := t) (b := 10) C (by omega) (by omega) dX4_scale_7 (by decide) (fun h_5 => absurd h_5 (by omega)) (fun _ => ?_)
      refine lv_aload_n C.1 C.2.1 dX4_scale_10 rfl (lv_at hl 1 rfl) ?_
      refine lv_iload C.1 C.2.1 dX4_scale_11 (lv_at hl 0 rfl) ?_
      refine lv_aload_n C.1 C.2.1 dX4_scale_13 rfl (lv_at hl 2 rfl) ?_
      refine lv_iload C.1 C.2.1 dX4_scale_14 (lv_at hl 0 rfl) ?_
      refine m_lald C w (k := k2) (i := t) (n := n2) (wr := w2) hk2 hs2 (by omega) hn2 dX4_scale_16 ?_
      refine lv_lload_n C.1 C.2.1 dX4_scale_17 rfl (lv_at hl 3 rfl) ?_
      refine lv_lmul C.1 C.2.1 dX4_scale_18 ?_
      refine m_last C w (k := k1) (i := t) (n := n1) (x := ((M_4.2 k2 t) * (v1))) hk1 hs1 (by omega) hn1 dX4_scale_19 (fun H locs w => ?_)
      obtain ⟨M_6, eM_6⟩ : ∃ zz, zz = mm_wl M_4 k1 t ((M_4.2 k2 t) * (v1)) := ⟨_, rfl⟩
      rw [← eM_6] at w
      refine lv_iinc (v := (nI (t + 1))) (lv' := [(4, .int (nI (t + 1))), (0, .ref (r (k1))), (1, .ref (r (k2))), (2, .long (v1))]) C.1 C.2.1 dX4_scale_20 hl (k := 0) rfl (nI_add t 1) (by decide) rfl (fun ls hl => ?_)
      refine lv_goto (tgt := 3) C.1 C.2.1 dX4_scale_23 (by decide) ?_
      have h9 : lv_has ls 5 [(4, .int (nI (t + 1))), (0, .ref (r (k1))), (1, .ref (r (k2))), (2, .long (v1))] := lv_sub hl [0, 1, 2, 3] rfl
      have hlZ : lv_has ls 5 [(4, .int (nI (t + 1))), (0, .ref (r (k1))), (1, .ref (r (k2))), (2, .long (v1))] := h9
      have wZ := w
      subst eM_4 eM_6
      refine ih (t + 1) (by omega) _ _ _ (wZ) ?_
      exact hlZ
  exact loop 10 0 (by omega) _ _ ls w hl

def f_X4_multiplyLimbs (k1 : Nat) (k2 : Nat) (k3 : Nat) (M : mm_M) : mm_M :=
  let x3_1 := M.2 k2 0
  let x5_2 := M.2 k2 1
  let x7_3 := M.2 k2 2
  let x9_4 := M.2 k2 3
  let x11_5 := M.2 k2 4
  let x13_6 := M.2 k2 5
  let x15_7 := M.2 k2 6
  let x17_8 := M.2 k2 7
  let x19_9 := M.2 k2 8
  let x21_10 := M.2 k2 9
  let x23_11 := M.2 k3 0
  let x25_12 := M.2 k3 1
  let x27_13 := M.2 k3 2
  let x29_14 := M.2 k3 3
  let x31_15 := M.2 k3 4
  let x33_16 := M.2 k3 5
  let x35_17 := M.2 k3 6
  let x37_18 := M.2 k3 7
  let x39_19 := M.2 k3 8
  let x41_20 := M.2 k3 9
  let x43_21 := (2) * (x5_2)
  let x45_22 := (2) * (x9_4)
  let x47_23 := (2) * (x13_6)
  let x49_24 := (2) * (x17_8)
  let x51_25 := (2) * (x21_10)
  let x53_26 := (19) * (x25_12)
  let x55_27 := (19) * (x27_13)
  let x57_28 := (19) * (x29_14)
  let x59_29 := (19) * (x31_15)
  let x61_30 := (19) * (x33_16)
  let x63_31 := (19) * (x35_17)
  let x65_32 := (19) * (x37_18)
  let x67_33 := (19) * (x39_19)
  let x69_34 := (19) * (x41_20)
  let M_35 := mm_wl M k1 0 (((((((((((x3_1) * (x23_11)) + ((x43_21) * (x69_34))) + ((x7_3) * (x67_33))) + ((x45_22) * (x65_32))) + ((x11_5) * (x63_31))) + ((x47_23) * (x61_30))) + ((x15_7) * (x59_29))) + ((x49_24) * (x57_28))) + ((x19_9) * (x55_27))) + ((x51_25) * (x53_26)))
  let M_36 := mm_wl M_35 k1 1 (((((((((((x3_1) * (x25_12)) + ((x5_2) * (x23_11))) + ((x7_3) * (x69_34))) + ((x9_4) * (x67_33))) + ((x11_5) * (x65_32))) + ((x13_6) * (x63_31))) + ((x15_7) * (x61_30))) + ((x17_8) * (x59_29))) + ((x19_9) * (x57_28))) + ((x21_10) * (x55_27)))
  let M_37 := mm_wl M_36 k1 2 (((((((((((x3_1) * (x27_13)) + ((x43_21) * (x25_12))) + ((x7_3) * (x23_11))) + ((x45_22) * (x69_34))) + ((x11_5) * (x67_33))) + ((x47_23) * (x65_32))) + ((x15_7) * (x63_31))) + ((x49_24) * (x61_30))) + ((x19_9) * (x59_29))) + ((x51_25) * (x57_28)))
  let M_38 := mm_wl M_37 k1 3 (((((((((((x3_1) * (x29_14)) + ((x5_2) * (x27_13))) + ((x7_3) * (x25_12))) + ((x9_4) * (x23_11))) + ((x11_5) * (x69_34))) + ((x13_6) * (x67_33))) + ((x15_7) * (x65_32))) + ((x17_8) * (x63_31))) + ((x19_9) * (x61_30))) + ((x21_10) * (x59_29)))
  let M_39 := mm_wl M_38 k1 4 (((((((((((x3_1) * (x31_15)) + ((x43_21) * (x29_14))) + ((x7_3) * (x27_13))) + ((x45_22) * (x25_12))) + ((x11_5) * (x23_11))) + ((x47_23) * (x69_34))) + ((x15_7) * (x67_33))) + ((x49_24) * (x65_32))) + ((x19_9) * (x63_31))) + ((x51_25) * (x61_30)))
  let M_40 := mm_wl M_39 k1 5 (((((((((((x3_1) * (x33_16)) + ((x5_2) * (x31_15))) + ((x7_3) * (x29_14))) + ((x9_4) * (x27_13))) + ((x11_5) * (x25_12))) + ((x13_6) * (x23_11))) + ((x15_7) * (x69_34))) + ((x17_8) * (x67_33))) + ((x19_9) * (x65_32))) + ((x21_10) * (x63_31)))
  let M_41 := mm_wl M_40 k1 6 (((((((((((x3_1) * (x35_17)) + ((x43_21) * (x33_16))) + ((x7_3) * (x31_15))) + ((x45_22) * (x29_14))) + ((x11_5) * (x27_13))) + ((x47_23) * (x25_12))) + ((x15_7) * (x23_11))) + ((x49_24) * (x69_34))) + ((x19_9) * (x67_33))) + ((x51_25) * (x65_32)))
  let M_42 := mm_wl M_41 k1 7 (((((((((((x3_1) * (x37_18)) + ((x5_2) * (x35_17))) + ((x7_3) * (x33_16))) + ((x9_4) * (x31_15))) + ((x11_5) * (x29_14))) + ((x13_6) * (x27_13))) + ((x15_7) * (x25_12))) + ((x17_8) * (x23_11))) + ((x19_9) * (x69_34))) + ((x21_10) * (x67_33)))
  let M_43 := mm_wl M_42 k1 8 (((((((((((x3_1) * (x39_19)) + ((x43_21) * (x37_18))) + ((x7_3) * (x35_17))) + ((x45_22) * (x33_16))) + ((x11_5) * (x31_15))) + ((x47_23) * (x29_14))) + ((x15_7) * (x27_13))) + ((x49_24) * (x25_12))) + ((x19_9) * (x23_11))) + ((x51_25) * (x69_34)))
  let M_44 := mm_wl M_43 k1 9 (((((((((((x3_1) * (x41_20)) + ((x5_2) * (x39_19))) + ((x7_3) * (x37_18))) + ((x9_4) * (x35_17))) + ((x11_5) * (x33_16))) + ((x13_6) * (x31_15))) + ((x15_7) * (x29_14))) + ((x17_8) * (x27_13))) + ((x19_9) * (x25_12))) + ((x21_10) * (x23_11)))
  let M_45 := f_X4_carry k1 M_44
  M_45
theorem w_f_X4_multiplyLimbs (k1 : Nat) (k2 : Nat) (k3 : Nat) (M : mm_M) : mm_fr [k1] M (f_X4_multiplyLimbs k1 k2 k3 M) := by
  unfold f_X4_multiplyLimbs
  exact ((w_f_X4_carry _ _).on (by simp) (mm_fr_wl (by simp) (mm_fr_wl (by simp) (mm_fr_wl (by simp) (mm_fr_wl (by simp) (mm_fr_wl (by simp) (mm_fr_wl (by simp) (mm_fr_wl (by simp) (mm_fr_wl (by simp) (mm_fr_wl (by simp) (mm_fr_wl (by simp) (mm_fr_refl _ _))))))))))))
set_option maxHeartbeats 4000000 in
set_option maxRecDepth 100000 in
theorem c_X4_multiplyLimbs (l : Launch) (D : va_G) (b0 : Nat) (r : Nat → Nat) (M : mm_M) (k1 : Nat) (k2 : Nat) (k3 : Nat) {n1 : Nat} (hk1 : k1 < 173) (hs1 : mm_sh k1 = .inl (.long, n1, true)) (hn1 : n1 < 2 ^ 31) (hp1 : 10 ≤ n1) {n2 : Nat} {w2 : Bool} (hk2 : k2 < 181) (hs2 : mm_sh k2 = .inl (.long, n2, w2)) (hn2 : n2 < 2 ^ 31) (hp2 : 10 ≤ n2) {n3 : Nat} {w3 : Bool} (hk3 : k3 < 181) (hs3 : mm_sh k3 = .inl (.long, n3, w3)) (hn3 : n3 < 2 ^ 31) (hp3 : 10 ≤ n3) : mm_Mv l yX4_multiplyLimbs cX4_multiplyLimbs 71 1 27 D b0 r [.ref (r (k1)), .ref (r (k2)), .ref (r (k3))] M (fun M' => M' = f_X4_multiplyLimbs k1 k2 k3 M) := by
  refine mm_enter (cc := cX4_multiplyLimbs) (nL := 71) (ret := none) (by decide) (Nat.le_of_ble_eq_true rfl) ?_
  intro p e s m args below meth c C w ls hl
  have hl : lv_has ls 71 [(0, .ref (r (k1))), (1, .ref (r (k2))), (2, .ref (r (k3)))] := hl
  refine lv_aload_n C.1 C.2.1 dX4_multiplyLimbs_0 rfl (lv_at hl 1 rfl) ?_
  refine lv_iconst (v := 0) C.1 C.2.1 dX4_multiplyLimbs_1 (by decide) ?_
  refine m_lald C w (k := k2) (i := 0) (n := n2) (wr := w2) hk2 hs2 (by omega) hn2 dX4_multiplyLimbs_2 ?_
  refine lv_topl (fun x3_1 ex3_1 => ?_)
  refine lv_lstore_n (lv' := [(3, .long (x3_1)), (0, .ref (r (k1))), (1, .ref (r (k2))), (2, .ref (r (k3)))]) C.1 C.2.1 dX4_multiplyLimbs_3 rfl hl (by decide) rfl (fun ls hl => ?_)
  refine lv_aload_n C.1 C.2.1 dX4_multiplyLimbs_4 rfl (lv_at hl 2 rfl) ?_
  refine lv_iconst (v := 1) C.1 C.2.1 dX4_multiplyLimbs_5 (by decide) ?_
  refine m_lald C w (k := k2) (i := 1) (n := n2) (wr := w2) hk2 hs2 (by omega) hn2 dX4_multiplyLimbs_6 ?_
  refine lv_topl (fun x5_2 ex5_2 => ?_)
  refine lv_lstore (lv' := [(5, .long (x5_2)), (3, .long (x3_1)), (0, .ref (r (k1))), (1, .ref (r (k2))), (2, .ref (r (k3)))]) C.1 C.2.1 dX4_multiplyLimbs_7 hl (by decide) rfl (fun ls hl => ?_)
  refine lv_aload_n C.1 C.2.1 dX4_multiplyLimbs_9 rfl (lv_at hl 3 rfl) ?_
  refine lv_iconst (v := 2) C.1 C.2.1 dX4_multiplyLimbs_10 (by decide) ?_
  refine m_lald C w (k := k2) (i := 2) (n := n2) (wr := w2) hk2 hs2 (by omega) hn2 dX4_multiplyLimbs_11 ?_
  refine lv_topl (fun x7_3 ex7_3 => ?_)
  refine lv_lstore (lv' := [(7, .long (x7_3)), (5, .long (x5_2)), (3, .long (x3_1)), (0, .ref (r (k1))), (1, .ref (r (k2))), (2, .ref (r (k3)))]) C.1 C.2.1 dX4_multiplyLimbs_12 hl (by decide) rfl (fun ls hl => ?_)
  refine lv_aload_n C.1 C.2.1 dX4_multiplyLimbs_14 rfl (lv_at hl 4 rfl) ?_
  refine lv_iconst (v := 3) C.1 C.2.1 dX4_multiplyLimbs_15 (by decide) ?_
  refine m_lald C w (k := k2) (i := 3) (n := n2) (wr := w2) hk2 hs2 (by omega) hn2 dX4_multiplyLimbs_16 ?_
  refine lv_topl (fun x9_4 ex9_4 => ?_)
  refine lv_lstore (lv' := [(9, .long (x9_4)), (7, .long (x7_3)), (5, .long (x5_2)), (3, .long (x3_1)), (0, .ref (r (k1))), (1, .ref (r (k2))), (2, .ref (r (k3)))]) C.1 C.2.1 dX4_multiplyLimbs_17 hl (by decide) rfl (fun ls hl => ?_)
  refine lv_aload_n C.1 C.2.1 dX4_multiplyLimbs_19 rfl (lv_at hl 5 rfl) ?_
  refine lv_iconst (v := 4) C.1 C.2.1 dX4_multiplyLimbs_20 (by decide) ?_
  refine m_lald C w (k := k2) (i := 4) (n := n2) (wr := w2) hk2 hs2 (by omega) hn2 dX4_multiplyLimbs_21 ?_
  refine lv_topl (fun x11_5 ex11_5 => ?_)
  refine lv_lstore (lv' := [(11, .long (x11_5)), (9, .long (x9_4)), (7, .long (x7_3)), (5, .long (x5_2)), (3, .long (x3_1)), (0, .ref (r (k1))), (1, .ref (r (k2))), (2, .ref (r (k3)))]) C.1 C.2.1 dX4_multiplyLimbs_22 hl (by decide) rfl (fun ls hl => ?_)
  refine lv_aload_n C.1 C.2.1 dX4_multiplyLimbs_24 rfl (lv_at hl 6 rfl) ?_
  refine lv_iconst (v := 5) C.1 C.2.1 dX4_multiplyLimbs_25 (by decide) ?_
  refine m_lald C w (k := k2) (i := 5) (n := n2) (wr := w2) hk2 hs2 (by omega) hn2 dX4_multiplyLimbs_26 ?_
  refine lv_topl (fun x13_6 ex13_6 => ?_)
  refine lv_lstore (lv' := [(13, .long (x13_6)), (11, .long (x11_5)), (9, .long (x9_4)), (7, .long (x7_3)), (5, .long (x5_2)), (3, .long (x3_1)), (0, .ref (r (k1))), (1, .ref (r (k2))), (2, .ref (r (k3)))]) C.1 C.2.1 dX4_multiplyLimbs_27 hl (by decide) rfl (fun ls hl => ?_)
  refine lv_aload_n C.1 C.2.1 dX4_multiplyLimbs_29 rfl (lv_at hl 7 rfl) ?_
  refine lv_bipush (v := 6) C.1 C.2.1 dX4_multiplyLimbs_30 (by decide) ?_
  refine m_lald C w (k := k2) (i := 6) (n := n2) (wr := w2) hk2 hs2 (by omega) hn2 dX4_multiplyLimbs_32 ?_
  refine lv_topl (fun x15_7 ex15_7 => ?_)
  refine lv_lstore (lv' := [(15, .long (x15_7)), (13, .long (x13_6)), (11, .long (x11_5)), (9, .long (x9_4)), (7, .long (x7_3)), (5, .long (x5_2)), (3, .long (x3_1)), (0, .ref (r (k1))), (1, .ref (r (k2))), (2, .ref (r (k3)))]) C.1 C.2.1 dX4_multiplyLimbs_33 hl (by decide) rfl (fun ls hl => ?_)
  refine lv_aload_n C.1 C.2.1 dX4_multiplyLimbs_35 rfl (lv_at hl 8 rfl) ?_
  refine lv_bipush (v := 7) C.1 C.2.1 dX4_multiplyLimbs_36 (by decide) ?_
  refine m_lald C w (k := k2) (i := 7) (n := n2) (wr := w2) hk2 hs2 (by omega) hn2 dX4_multiplyLimbs_38 ?_
  refine lv_topl (fun x17_8 ex17_8 => ?_)
  refine lv_lstore (lv' := [(17, .long (x17_8)), (15, .long (x15_7)), (13, .long (x13_6)), (11, .long (x11_5)), (9, .long (x9_4)), (7, .long (x7_3)), (5, .long (x5_2)), (3, .long (x3_1)), (0, .ref (r (k1))), (1, .ref (r (k2))), (2, .ref (r (k3)))]) C.1 C.2.1 dX4_multiplyLimbs_39 hl (by decide) rfl (fun ls hl => ?_)
  refine lv_aload_n C.1 C.2.1 dX4_multiplyLimbs_41 rfl (lv_at hl 9 rfl) ?_
  refine lv_bipush (v := 8) C.1 C.2.1 dX4_multiplyLimbs_42 (by decide) ?_
  refine m_lald C w (k := k2) (i := 8) (n := n2) (wr := w2) hk2 hs2 (by omega) hn2 dX4_multiplyLimbs_44 ?_
  refine lv_topl (fun x19_9 ex19_9 => ?_)
  refine lv_lstore (lv' := [(19, .long (x19_9)), (17, .long (x17_8)), (15, .long (x15_7)), (13, .long (x13_6)), (11, .long (x11_5)), (9, .long (x9_4)), (7, .long (x7_3)), (5, .long (x5_2)), (3, .long (x3_1)), (0, .ref (r (k1))), (1, .ref (r (k2))), (2, .ref (r (k3)))]) C.1 C.2.1 dX4_multiplyLimbs_45 hl (by decide) rfl (fun ls hl => ?_)
  refine lv_aload_n C.1 C.2.1 dX4_multiplyLimbs_47 rfl (lv_at hl 10 rfl) ?_
  refine lv_bipush (v := 9) C.1 C.2.1 dX4_multiplyLimbs_48 (by decide) ?_
  refine m_lald C w (k := k2) (i := 9) (n := n2) (wr := w2) hk2 hs2 (by omega) hn2 dX4_multiplyLimbs_50 ?_
  refine lv_topl (fun x21_10 ex21_10 => ?_)
  refine lv_lstore (lv' := [(21, .long (x21_10)), (19, .long (x19_9)), (17, .long (x17_8)), (15, .long (x15_7)), (13, .long (x13_6)), (11, .long (x11_5)), (9, .long (x9_4)), (7, .long (x7_3)), (5, .long (x5_2)), (3, .long (x3_1)), (0, .ref (r (k1))), (1, .ref (r (k2))), (2, .ref (r (k3)))]) C.1 C.2.1 dX4_multiplyLimbs_51 hl (by decide) rfl (fun ls hl => ?_)
  refine lv_aload_n C.1 C.2.1 dX4_multiplyLimbs_53 rfl (lv_at hl 12 rfl) ?_
  refine lv_iconst (v := 0) C.1 C.2.1 dX4_multiplyLimbs_54 (by decide) ?_
  refine m_lald C w (k := k3) (i := 0) (n := n3) (wr := w3) hk3 hs3 (by omega) hn3 dX4_multiplyLimbs_55 ?_
  refine lv_topl (fun x23_11 ex23_11 => ?_)
  refine lv_lstore (lv' := [(23, .long (x23_11)), (21, .long (x21_10)), (19, .long (x19_9)), (17, .long (x17_8)), (15, .long (x15_7)), (13, .long (x13_6)), (11, .long (x11_5)), (9, .long (x9_4)), (7, .long (x7_3)), (5, .long (x5_2)), (3, .long (x3_1)), (0, .ref (r (k1))), (1, .ref (r (k2))), (2, .ref (r (k3)))]) C.1 C.2.1 dX4_multiplyLimbs_56 hl (by decide) rfl (fun ls hl => ?_)
  refine lv_aload_n C.1 C.2.1 dX4_multiplyLimbs_58 rfl (lv_at hl 13 rfl) ?_
  refine lv_iconst (v := 1) C.1 C.2.1 dX4_multiplyLimbs_59 (by decide) ?_
  refine m_lald C w (k := k3) (i := 1) (n := n3) (wr := w3) hk3 hs3 (by omega) hn3 dX4_multiplyLimbs_60 ?_
  refine lv_topl (fun x25_12 ex25_12 => ?_)
  refine lv_lstore (lv' := [(25, .long (x25_12)), (23, .long (x23_11)), (21, .long (x21_10)), (19, .long (x19_9)), (17, .long (x17_8)), (15, .long (x15_7)), (13, .long (x13_6)), (11, .long (x11_5)), (9, .long (x9_4)), (7, .long (x7_3)), (5, .long (x5_2)), (3, .long (x3_1)), (0, .ref (r (k1))), (1, .ref (r (k2))), (2, .ref (r (k3)))]) C.1 C.2.1 dX4_multiplyLimbs_61 hl (by decide) rfl (fun ls hl => ?_)
  refine lv_aload_n C.1 C.2.1 dX4_multiplyLimbs_63 rfl (lv_at hl 14 rfl) ?_
  refine lv_iconst (v := 2) C.1 C.2.1 dX4_multiplyLimbs_64 (by decide) ?_
  refine m_lald C w (k := k3) (i := 2) (n := n3) (wr := w3) hk3 hs3 (by omega) hn3 dX4_multiplyLimbs_65 ?_
  refine lv_topl (fun x27_13 ex27_13 => ?_)
  refine lv_lstore (lv' := [(27, .long (x27_13)), (25, .long (x25_12)), (23, .long (x23_11)), (21, .long (x21_10)), (19, .long (x19_9)), (17, .long (x17_8)), (15, .long (x15_7)), (13, .long (x13_6)), (11, .long (x11_5)), (9, .long (x9_4)), (7, .long (x7_3)), (5, .long (x5_2)), (3, .long (x3_1)), (0, .ref (r (k1))), (1, .ref (r (k2))), (2, .ref (r (k3)))]) C.1 C.2.1 dX4_multiplyLimbs_66 hl (by decide) rfl (fun ls hl => ?_)
  refine lv_aload_n C.1 C.2.1 dX4_multiplyLimbs_68 rfl (lv_at hl 15 rfl) ?_
  refine lv_iconst (v := 3) C.1 C.2.1 dX4_multiplyLimbs_69 (by decide) ?_
  refine m_lald C w (k := k3) (i := 3) (n := n3) (wr := w3) hk3 hs3 (by omega) hn3 dX4_multiplyLimbs_70 ?_
  refine lv_topl (fun x29_14 ex29_14 => ?_)
  refine lv_lstore (lv' := [(29, .long (x29_14)), (27, .long (x27_13)), (25, .long (x25_12)), (23, .long (x23_11)), (21, .long (x21_10)), (19, .long (x19_9)), (17, .long (x17_8)), (15, .long (x15_7)), (13, .long (x13_6)), (11, .long (x11_5)), (9, .long (x9_4)), (7, .long (x7_3)), (5, .long (x5_2)), (3, .long (x3_1)), (0, .ref (r (k1))), (1, .ref (r (k2))), (2, .ref (r (k3)))]) C.1 C.2.1 dX4_multiplyLimbs_71 hl (by decide) rfl (fun ls hl => ?_)
  refine lv_aload_n C.1 C.2.1 dX4_multiplyLimbs_73 rfl (lv_at hl 16 rfl) ?_
  refine lv_iconst (v := 4) C.1 C.2.1 dX4_multiplyLimbs_74 (by decide) ?_
  refine m_lald C w (k := k3) (i := 4) (n := n3) (wr := w3) hk3 hs3 (by omega) hn3 dX4_multiplyLimbs_75 ?_
  refine lv_topl (fun x31_15 ex31_15 => ?_)
  refine lv_lstore (lv' := [(31, .long (x31_15)), (29, .long (x29_14)), (27, .long (x27_13)), (25, .long (x25_12)), (23, .long (x23_11)), (21, .long (x21_10)), (19, .long (x19_9)), (17, .long (x17_8)), (15, .long (x15_7)), (13, .long (x13_6)), (11, .long (x11_5)), (9, .long (x9_4)), (7, .long (x7_3)), (5, .long (x5_2)), (3, .long (x3_1)), (0, .ref (r (k1))), (1, .ref (r (k2))), (2, .ref (r (k3)))]) C.1 C.2.1 dX4_multiplyLimbs_76 hl (by decide) rfl (fun ls hl => ?_)
  refine lv_aload_n C.1 C.2.1 dX4_multiplyLimbs_78 rfl (lv_at hl 17 rfl) ?_
  refine lv_iconst (v := 5) C.1 C.2.1 dX4_multiplyLimbs_79 (by decide) ?_
  refine m_lald C w (k := k3) (i := 5) (n := n3) (wr := w3) hk3 hs3 (by omega) hn3 dX4_multiplyLimbs_80 ?_
  refine lv_topl (fun x33_16 ex33_16 => ?_)
  refine lv_lstore (lv' := [(33, .long (x33_16)), (31, .long (x31_15)), (29, .long (x29_14)), (27, .long (x27_13)), (25, .long (x25_12)), (23, .long (x23_11)), (21, .long (x21_10)), (19, .long (x19_9)), (17, .long (x17_8)), (15, .long (x15_7)), (13, .long (x13_6)), (11, .long (x11_5)), (9, .long (x9_4)), (7, .long (x7_3)), (5, .long (x5_2)), (3, .long (x3_1)), (0, .ref (r (k1))), (1, .ref (r (k2))), (2, .ref (r (k3)))]) C.1 C.2.1 dX4_multiplyLimbs_81 hl (by decide) rfl (fun ls hl => ?_)
  refine lv_aload_n C.1 C.2.1 dX4_multiplyLimbs_83 rfl (lv_at hl 18 rfl) ?_
  refine lv_bipush (v := 6) C.1 C.2.1 dX4_multiplyLimbs_84 (by decide) ?_
  refine m_lald C w (k := k3) (i := 6) (n := n3) (wr := w3) hk3 hs3 (by omega) hn3 dX4_multiplyLimbs_86 ?_
  refine lv_topl (fun x35_17 ex35_17 => ?_)
  refine lv_lstore (lv' := [(35, .long (x35_17)), (33, .long (x33_16)), (31, .long (x31_15)), (29, .long (x29_14)), (27, .long (x27_13)), (25, .long (x25_12)), (23, .long (x23_11)), (21, .long (x21_10)), (19, .long (x19_9)), (17, .long (x17_8)), (15, .long (x15_7)), (13, .long (x13_6)), (11, .long (x11_5)), (9, .long (x9_4)), (7, .long (x7_3)), (5, .long (x5_2)), (3, .long (x3_1)), (0, .ref (r (k1))), (1, .ref (r (k2))), (2, .ref (r (k3)))]) C.1 C.2.1 dX4_multiplyLimbs_87 hl (by decide) rfl (fun ls hl => ?_)
  refine lv_aload_n C.1 C.2.1 dX4_multiplyLimbs_89 rfl (lv_at hl 19 rfl) ?_
  refine lv_bipush (v := 7) C.1 C.2.1 dX4_multiplyLimbs_90 (by decide) ?_
  refine m_lald C w (k := k3) (i := 7) (n := n3) (wr := w3) hk3 hs3 (by omega) hn3 dX4_multiplyLimbs_92 ?_
  refine lv_topl (fun x37_18 ex37_18 => ?_)
  refine lv_lstore (lv' := [(37, .long (x37_18)), (35, .long (x35_17)), (33, .long (x33_16)), (31, .long (x31_15)), (29, .long (x29_14)), (27, .long (x27_13)), (25, .long (x25_12)), (23, .long (x23_11)), (21, .long (x21_10)), (19, .long (x19_9)), (17, .long (x17_8)), (15, .long (x15_7)), (13, .long (x13_6)), (11, .long (x11_5)), (9, .long (x9_4)), (7, .long (x7_3)), (5, .long (x5_2)), (3, .long (x3_1)), (0, .ref (r (k1))), (1, .ref (r (k2))), (2, .ref (r (k3)))]) C.1 C.2.1 dX4_multiplyLimbs_93 hl (by decide) rfl (fun ls hl => ?_)
  refine lv_aload_n C.1 C.2.1 dX4_multiplyLimbs_95 rfl (lv_at hl 20 rfl) ?_
  refine lv_bipush (v := 8) C.1 C.2.1 dX4_multiplyLimbs_96 (by decide) ?_
  refine m_lald C w (k := k3) (i := 8) (n := n3) (wr := w3) hk3 hs3 (by omega) hn3 dX4_multiplyLimbs_98 ?_
  refine lv_topl (fun x39_19 ex39_19 => ?_)
  refine lv_lstore (lv' := [(39, .long (x39_19)), (37, .long (x37_18)), (35, .long (x35_17)), (33, .long (x33_16)), (31, .long (x31_15)), (29, .long (x29_14)), (27, .long (x27_13)), (25, .long (x25_12)), (23, .long (x23_11)), (21, .long (x21_10)), (19, .long (x19_9)), (17, .long (x17_8)), (15, .long (x15_7)), (13, .long (x13_6)), (11, .long (x11_5)), (9, .long (x9_4)), (7, .long (x7_3)), (5, .long (x5_2)), (3, .long (x3_1)), (0, .ref (r (k1))), (1, .ref (r (k2))), (2, .ref (r (k3)))]) C.1 C.2.1 dX4_multiplyLimbs_99 hl (by decide) rfl (fun ls hl => ?_)
  refine lv_aload_n C.1 C.2.1 dX4_multiplyLimbs_101 rfl (lv_at hl 21 rfl) ?_
  refine lv_bipush (v := 9) C.1 C.2.1 dX4_multiplyLimbs_102 (by decide) ?_
  refine m_lald C w (k := k3) (i := 9) (n := n3) (wr := w3) hk3 hs3 (by omega) hn3 dX4_multiplyLimbs_104 ?_
  refine lv_topl (fun x41_20 ex41_20 => ?_)
  refine lv_lstore (lv' := [(41, .long (x41_20)), (39, .long (x39_19)), (37, .long (x37_18)), (35, .long (x35_17)), (33, .long (x33_16)), (31, .long (x31_15)), (29, .long (x29_14)), (27, .long (x27_13)), (25, .long (x25_12)), (23, .long (x23_11)), (21, .long (x21_10)), (19, .long (x19_9)), (17, .long (x17_8)), (15, .long (x15_7)), (13, .long (x13_6)), (11, .long (x11_5)), (9, .long (x9_4)), (7, .long (x7_3)), (5, .long (x5_2)), (3, .long (x3_1)), (0, .ref (r (k1))), (1, .ref (r (k2))), (2, .ref (r (k3)))]) C.1 C.2.1 dX4_multiplyLimbs_105 hl (by decide) rfl (fun ls hl => ?_)
  refine lv_ldc2 (v := (2)) C.1 C.2.1 C.2.2.2.1 (C.2.2.2.2.1 _ klX4_115) dX4_multiplyLimbs_107 ?_
  refine lv_lload C.1 C.2.1 dX4_multiplyLimbs_110 (lv_at hl 18 rfl) ?_
  refine lv_lmul C.1 C.2.1 dX4_multiplyLimbs_112 ?_
  refine lv_topl (fun x43_21 ex43_21 => ?_)
  refine lv_lstore (lv' := [(43, .long (x43_21)), (41, .long (x41_20)), (39, .long (x39_19)), (37, .long (x37_18)), (35, .long (x35_17)), (33, .long (x33_16)), (31, .long (x31_15)), (29, .long (x29_14)), (27, .long (x27_13)), (25, .long (x25_12)), (23, .long (x23_11)), (21, .long (x21_10)), (19, .long (x19_9)), (17, .long (x17_8)), (15, .long (x15_7)), (13, .long (x13_6)), (11, .long (x11_5)), (9, .long (x9_4)), (7, .long (x7_3)), (5, .long (x5_2)), (3, .long (x3_1)), (0, .ref (r (k1))), (1, .ref (r (k2))), (2, .ref (r (k3)))]) C.1 C.2.1 dX4_multiplyLimbs_113 hl (by decide) rfl (fun ls hl => ?_)
  refine lv_ldc2 (v := (2)) C.1 C.2.1 C.2.2.2.1 (C.2.2.2.2.1 _ klX4_115) dX4_multiplyLimbs_115 ?_
  refine lv_lload C.1 C.2.1 dX4_multiplyLimbs_118 (lv_at hl 17 rfl) ?_
  refine lv_lmul C.1 C.2.1 dX4_multiplyLimbs_120 ?_
  refine lv_topl (fun x45_22 ex45_22 => ?_)
  refine lv_lstore (lv' := [(45, .long (x45_22)), (43, .long (x43_21)), (41, .long (x41_20)), (39, .long (x39_19)), (37, .long (x37_18)), (35, .long (x35_17)), (33, .long (x33_16)), (31, .long (x31_15)), (29, .long (x29_14)), (27, .long (x27_13)), (25, .long (x25_12)), (23, .long (x23_11)), (21, .long (x21_10)), (19, .long (x19_9)), (17, .long (x17_8)), (15, .long (x15_7)), (13, .long (x13_6)), (11, .long (x11_5)), (9, .long (x9_4)), (7, .long (x7_3)), (5, .long (x5_2)), (3, .long (x3_1)), (0, .ref (r (k1))), (1, .ref (r (k2))), (2, .ref (r (k3)))]) C.1 C.2.1 dX4_multiplyLimbs_121 hl (by decide) rfl (fun ls hl => ?_)
  refine lv_ldc2 (v := (2)) C.1 C.2.1 C.2.2.2.1 (C.2.2.2.2.1 _ klX4_115) dX4_multiplyLimbs_123 ?_
  refine lv_lload C.1 C.2.1 dX4_multiplyLimbs_126 (lv_at hl 16 rfl) ?_
  refine lv_lmul C.1 C.2.1 dX4_multiplyLimbs_128 ?_
  refine lv_topl (fun x47_23 ex47_23 => ?_)
  refine lv_lstore (lv' := [(47, .long (x47_23)), (45, .long (x45_22)), (43, .long (x43_21)), (41, .long (x41_20)), (39, .long (x39_19)), (37, .long (x37_18)), (35, .long (x35_17)), (33, .long (x33_16)), (31, .long (x31_15)), (29, .long (x29_14)), (27, .long (x27_13)), (25, .long (x25_12)), (23, .long (x23_11)), (21, .long (x21_10)), (19, .long (x19_9)), (17, .long (x17_8)), (15, .long (x15_7)), (13, .long (x13_6)), (11, .long (x11_5)), (9, .long (x9_4)), (7, .long (x7_3)), (5, .long (x5_2)), (3, .long (x3_1)), (0, .ref (r (k1))), (1, .ref (r (k2))), (2, .ref (r (k3)))]) C.1 C.2.1 dX4_multiplyLimbs_129 hl (by decide) rfl (fun ls hl => ?_)
  refine lv_ldc2 (v := (2)) C.1 C.2.1 C.2.2.2.1 (C.2.2.2.2.1 _ klX4_115) dX4_multiplyLimbs_131 ?_
  refine lv_lload C.1 C.2.1 dX4_multiplyLimbs_134 (lv_at hl 15 rfl) ?_
  refine lv_lmul C.1 C.2.1 dX4_multiplyLimbs_136 ?_
  refine lv_topl (fun x49_24 ex49_24 => ?_)
  refine lv_lstore (lv' := [(49, .long (x49_24)), (47, .long (x47_23)), (45, .long (x45_22)), (43, .long (x43_21)), (41, .long (x41_20)), (39, .long (x39_19)), (37, .long (x37_18)), (35, .long (x35_17)), (33, .long (x33_16)), (31, .long (x31_15)), (29, .long (x29_14)), (27, .long (x27_13)), (25, .long (x25_12)), (23, .long (x23_11)), (21, .long (x21_10)), (19, .long (x19_9)), (17, .long (x17_8)), (15, .long (x15_7)), (13, .long (x13_6)), (11, .long (x11_5)), (9, .long (x9_4)), (7, .long (x7_3)), (5, .long (x5_2)), (3, .long (x3_1)), (0, .ref (r (k1))), (1, .ref (r (k2))), (2, .ref (r (k3)))]) C.1 C.2.1 dX4_multiplyLimbs_137 hl (by decide) rfl (fun ls hl => ?_)
  refine lv_ldc2 (v := (2)) C.1 C.2.1 C.2.2.2.1 (C.2.2.2.2.1 _ klX4_115) dX4_multiplyLimbs_139 ?_
  refine lv_lload C.1 C.2.1 dX4_multiplyLimbs_142 (lv_at hl 14 rfl) ?_
  refine lv_lmul C.1 C.2.1 dX4_multiplyLimbs_144 ?_
  refine lv_topl (fun x51_25 ex51_25 => ?_)
  refine lv_lstore (lv' := [(51, .long (x51_25)), (49, .long (x49_24)), (47, .long (x47_23)), (45, .long (x45_22)), (43, .long (x43_21)), (41, .long (x41_20)), (39, .long (x39_19)), (37, .long (x37_18)), (35, .long (x35_17)), (33, .long (x33_16)), (31, .long (x31_15)), (29, .long (x29_14)), (27, .long (x27_13)), (25, .long (x25_12)), (23, .long (x23_11)), (21, .long (x21_10)), (19, .long (x19_9)), (17, .long (x17_8)), (15, .long (x15_7)), (13, .long (x13_6)), (11, .long (x11_5)), (9, .long (x9_4)), (7, .long (x7_3)), (5, .long (x5_2)), (3, .long (x3_1)), (0, .ref (r (k1))), (1, .ref (r (k2))), (2, .ref (r (k3)))]) C.1 C.2.1 dX4_multiplyLimbs_145 hl (by decide) rfl (fun ls hl => ?_)
  refine lv_ldc2 (v := (19)) C.1 C.2.1 C.2.2.2.1 (C.2.2.2.2.1 _ klX4_117) dX4_multiplyLimbs_147 ?_
  refine lv_lload C.1 C.2.1 dX4_multiplyLimbs_150 (lv_at hl 13 rfl) ?_
  refine lv_lmul C.1 C.2.1 dX4_multiplyLimbs_152 ?_
  refine lv_topl (fun x53_26 ex53_26 => ?_)
  refine lv_lstore (lv' := [(53, .long (x53_26)), (51, .long (x51_25)), (49, .long (x49_24)), (47, .long (x47_23)), (45, .long (x45_22)), (43, .long (x43_21)), (41, .long (x41_20)), (39, .long (x39_19)), (37, .long (x37_18)), (35, .long (x35_17)), (33, .long (x33_16)), (31, .long (x31_15)), (29, .long (x29_14)), (27, .long (x27_13)), (25, .long (x25_12)), (23, .long (x23_11)), (21, .long (x21_10)), (19, .long (x19_9)), (17, .long (x17_8)), (15, .long (x15_7)), (13, .long (x13_6)), (11, .long (x11_5)), (9, .long (x9_4)), (7, .long (x7_3)), (5, .long (x5_2)), (3, .long (x3_1)), (0, .ref (r (k1))), (1, .ref (r (k2))), (2, .ref (r (k3)))]) C.1 C.2.1 dX4_multiplyLimbs_153 hl (by decide) rfl (fun ls hl => ?_)
  refine lv_ldc2 (v := (19)) C.1 C.2.1 C.2.2.2.1 (C.2.2.2.2.1 _ klX4_117) dX4_multiplyLimbs_155 ?_
  refine lv_lload C.1 C.2.1 dX4_multiplyLimbs_158 (lv_at hl 13 rfl) ?_
  refine lv_lmul C.1 C.2.1 dX4_multiplyLimbs_160 ?_
  refine lv_topl (fun x55_27 ex55_27 => ?_)
  refine lv_lstore (lv' := [(55, .long (x55_27)), (53, .long (x53_26)), (51, .long (x51_25)), (49, .long (x49_24)), (47, .long (x47_23)), (45, .long (x45_22)), (43, .long (x43_21)), (41, .long (x41_20)), (39, .long (x39_19)), (37, .long (x37_18)), (35, .long (x35_17)), (33, .long (x33_16)), (31, .long (x31_15)), (29, .long (x29_14)), (27, .long (x27_13)), (25, .long (x25_12)), (23, .long (x23_11)), (21, .long (x21_10)), (19, .long (x19_9)), (17, .long (x17_8)), (15, .long (x15_7)), (13, .long (x13_6)), (11, .long (x11_5)), (9, .long (x9_4)), (7, .long (x7_3)), (5, .long (x5_2)), (3, .long (x3_1)), (0, .ref (r (k1))), (1, .ref (r (k2))), (2, .ref (r (k3)))]) C.1 C.2.1 dX4_multiplyLimbs_161 hl (by decide) rfl (fun ls hl => ?_)
  refine lv_ldc2 (v := (19)) C.1 C.2.1 C.2.2.2.1 (C.2.2.2.2.1 _ klX4_117) dX4_multiplyLimbs_163 ?_
  refine lv_lload C.1 C.2.1 dX4_multiplyLimbs_166 (lv_at hl 13 rfl) ?_
  refine lv_lmul C.1 C.2.1 dX4_multiplyLimbs_168 ?_
  refine lv_topl (fun x57_28 ex57_28 => ?_)
  refine lv_lstore (lv' := [(57, .long (x57_28)), (55, .long (x55_27)), (53, .long (x53_26)), (51, .long (x51_25)), (49, .long (x49_24)), (47, .long (x47_23)), (45, .long (x45_22)), (43, .long (x43_21)), (41, .long (x41_20)), (39, .long (x39_19)), (37, .long (x37_18)), (35, .long (x35_17)), (33, .long (x33_16)), (31, .long (x31_15)), (29, .long (x29_14)), (27, .long (x27_13)), (25, .long (x25_12)), (23, .long (x23_11)), (21, .long (x21_10)), (19, .long (x19_9)), (17, .long (x17_8)), (15, .long (x15_7)), (13, .long (x13_6)), (11, .long (x11_5)), (9, .long (x9_4)), (7, .long (x7_3)), (5, .long (x5_2)), (3, .long (x3_1)), (0, .ref (r (k1))), (1, .ref (r (k2))), (2, .ref (r (k3)))]) C.1 C.2.1 dX4_multiplyLimbs_169 hl (by decide) rfl (fun ls hl => ?_)
  refine lv_ldc2 (v := (19)) C.1 C.2.1 C.2.2.2.1 (C.2.2.2.2.1 _ klX4_117) dX4_multiplyLimbs_171 ?_
  refine lv_lload C.1 C.2.1 dX4_multiplyLimbs_174 (lv_at hl 13 rfl) ?_
  refine lv_lmul C.1 C.2.1 dX4_multiplyLimbs_176 ?_
  refine lv_topl (fun x59_29 ex59_29 => ?_)
  refine lv_lstore (lv' := [(59, .long (x59_29)), (57, .long (x57_28)), (55, .long (x55_27)), (53, .long (x53_26)), (51, .long (x51_25)), (49, .long (x49_24)), (47, .long (x47_23)), (45, .long (x45_22)), (43, .long (x43_21)), (41, .long (x41_20)), (39, .long (x39_19)), (37, .long (x37_18)), (35, .long (x35_17)), (33, .long (x33_16)), (31, .long (x31_15)), (29, .long (x29_14)), (27, .long (x27_13)), (25, .long (x25_12)), (23, .long (x23_11)), (21, .long (x21_10)), (19, .long (x19_9)), (17, .long (x17_8)), (15, .long (x15_7)), (13, .long (x13_6)), (11, .long (x11_5)), (9, .long (x9_4)), (7, .long (x7_3)), (5, .long (x5_2)), (3, .long (x3_1)), (0, .ref (r (k1))), (1, .ref (r (k2))), (2, .ref (r (k3)))]) C.1 C.2.1 dX4_multiplyLimbs_177 hl (by decide) rfl (fun ls hl => ?_)
  refine lv_ldc2 (v := (19)) C.1 C.2.1 C.2.2.2.1 (C.2.2.2.2.1 _ klX4_117) dX4_multiplyLimbs_179 ?_
  refine lv_lload C.1 C.2.1 dX4_multiplyLimbs_182 (lv_at hl 13 rfl) ?_
  refine lv_lmul C.1 C.2.1 dX4_multiplyLimbs_184 ?_
  refine lv_topl (fun x61_30 ex61_30 => ?_)
  refine lv_lstore (lv' := [(61, .long (x61_30)), (59, .long (x59_29)), (57, .long (x57_28)), (55, .long (x55_27)), (53, .long (x53_26)), (51, .long (x51_25)), (49, .long (x49_24)), (47, .long (x47_23)), (45, .long (x45_22)), (43, .long (x43_21)), (41, .long (x41_20)), (39, .long (x39_19)), (37, .long (x37_18)), (35, .long (x35_17)), (33, .long (x33_16)), (31, .long (x31_15)), (29, .long (x29_14)), (27, .long (x27_13)), (25, .long (x25_12)), (23, .long (x23_11)), (21, .long (x21_10)), (19, .long (x19_9)), (17, .long (x17_8)), (15, .long (x15_7)), (13, .long (x13_6)), (11, .long (x11_5)), (9, .long (x9_4)), (7, .long (x7_3)), (5, .long (x5_2)), (3, .long (x3_1)), (0, .ref (r (k1))), (1, .ref (r (k2))), (2, .ref (r (k3)))]) C.1 C.2.1 dX4_multiplyLimbs_185 hl (by decide) rfl (fun ls hl => ?_)
  refine lv_ldc2 (v := (19)) C.1 C.2.1 C.2.2.2.1 (C.2.2.2.2.1 _ klX4_117) dX4_multiplyLimbs_187 ?_
  refine lv_lload C.1 C.2.1 dX4_multiplyLimbs_190 (lv_at hl 13 rfl) ?_
  refine lv_lmul C.1 C.2.1 dX4_multiplyLimbs_192 ?_
  refine lv_topl (fun x63_31 ex63_31 => ?_)
  refine lv_lstore (lv' := [(63, .long (x63_31)), (61, .long (x61_30)), (59, .long (x59_29)), (57, .long (x57_28)), (55, .long (x55_27)), (53, .long (x53_26)), (51, .long (x51_25)), (49, .long (x49_24)), (47, .long (x47_23)), (45, .long (x45_22)), (43, .long (x43_21)), (41, .long (x41_20)), (39, .long (x39_19)), (37, .long (x37_18)), (35, .long (x35_17)), (33, .long (x33_16)), (31, .long (x31_15)), (29, .long (x29_14)), (27, .long (x27_13)), (25, .long (x25_12)), (23, .long (x23_11)), (21, .long (x21_10)), (19, .long (x19_9)), (17, .long (x17_8)), (15, .long (x15_7)), (13, .long (x13_6)), (11, .long (x11_5)), (9, .long (x9_4)), (7, .long (x7_3)), (5, .long (x5_2)), (3, .long (x3_1)), (0, .ref (r (k1))), (1, .ref (r (k2))), (2, .ref (r (k3)))]) C.1 C.2.1 dX4_multiplyLimbs_193 hl (by decide) rfl (fun ls hl => ?_)
  refine lv_ldc2 (v := (19)) C.1 C.2.1 C.2.2.2.1 (C.2.2.2.2.1 _ klX4_117) dX4_multiplyLimbs_195 ?_
  refine lv_lload C.1 C.2.1 dX4_multiplyLimbs_198 (lv_at hl 13 rfl) ?_
  refine lv_lmul C.1 C.2.1 dX4_multiplyLimbs_200 ?_
  refine lv_topl (fun x65_32 ex65_32 => ?_)
  refine lv_lstore (lv' := [(65, .long (x65_32)), (63, .long (x63_31)), (61, .long (x61_30)), (59, .long (x59_29)), (57, .long (x57_28)), (55, .long (x55_27)), (53, .long (x53_26)), (51, .long (x51_25)), (49, .long (x49_24)), (47, .long (x47_23)), (45, .long (x45_22)), (43, .long (x43_21)), (41, .long (x41_20)), (39, .long (x39_19)), (37, .long (x37_18)), (35, .long (x35_17)), (33, .long (x33_16)), (31, .long (x31_15)), (29, .long (x29_14)), (27, .long (x27_13)), (25, .long (x25_12)), (23, .long (x23_11)), (21, .long (x21_10)), (19, .long (x19_9)), (17, .long (x17_8)), (15, .long (x15_7)), (13, .long (x13_6)), (11, .long (x11_5)), (9, .long (x9_4)), (7, .long (x7_3)), (5, .long (x5_2)), (3, .long (x3_1)), (0, .ref (r (k1))), (1, .ref (r (k2))), (2, .ref (r (k3)))]) C.1 C.2.1 dX4_multiplyLimbs_201 hl (by decide) rfl (fun ls hl => ?_)
  refine lv_ldc2 (v := (19)) C.1 C.2.1 C.2.2.2.1 (C.2.2.2.2.1 _ klX4_117) dX4_multiplyLimbs_203 ?_
  refine lv_lload C.1 C.2.1 dX4_multiplyLimbs_206 (lv_at hl 13 rfl) ?_
  refine lv_lmul C.1 C.2.1 dX4_multiplyLimbs_208 ?_
  refine lv_topl (fun x67_33 ex67_33 => ?_)
  refine lv_lstore (lv' := [(67, .long (x67_33)), (65, .long (x65_32)), (63, .long (x63_31)), (61, .long (x61_30)), (59, .long (x59_29)), (57, .long (x57_28)), (55, .long (x55_27)), (53, .long (x53_26)), (51, .long (x51_25)), (49, .long (x49_24)), (47, .long (x47_23)), (45, .long (x45_22)), (43, .long (x43_21)), (41, .long (x41_20)), (39, .long (x39_19)), (37, .long (x37_18)), (35, .long (x35_17)), (33, .long (x33_16)), (31, .long (x31_15)), (29, .long (x29_14)), (27, .long (x27_13)), (25, .long (x25_12)), (23, .long (x23_11)), (21, .long (x21_10)), (19, .long (x19_9)), (17, .long (x17_8)), (15, .long (x15_7)), (13, .long (x13_6)), (11, .long (x11_5)), (9, .long (x9_4)), (7, .long (x7_3)), (5, .long (x5_2)), (3, .long (x3_1)), (0, .ref (r (k1))), (1, .ref (r (k2))), (2, .ref (r (k3)))]) C.1 C.2.1 dX4_multiplyLimbs_209 hl (by decide) rfl (fun ls hl => ?_)
  refine lv_ldc2 (v := (19)) C.1 C.2.1 C.2.2.2.1 (C.2.2.2.2.1 _ klX4_117) dX4_multiplyLimbs_211 ?_
  refine lv_lload C.1 C.2.1 dX4_multiplyLimbs_214 (lv_at hl 13 rfl) ?_
  refine lv_lmul C.1 C.2.1 dX4_multiplyLimbs_216 ?_
  refine lv_topl (fun x69_34 ex69_34 => ?_)
  refine lv_lstore (lv' := [(69, .long (x69_34)), (67, .long (x67_33)), (65, .long (x65_32)), (63, .long (x63_31)), (61, .long (x61_30)), (59, .long (x59_29)), (57, .long (x57_28)), (55, .long (x55_27)), (53, .long (x53_26)), (51, .long (x51_25)), (49, .long (x49_24)), (47, .long (x47_23)), (45, .long (x45_22)), (43, .long (x43_21)), (41, .long (x41_20)), (39, .long (x39_19)), (37, .long (x37_18)), (35, .long (x35_17)), (33, .long (x33_16)), (31, .long (x31_15)), (29, .long (x29_14)), (27, .long (x27_13)), (25, .long (x25_12)), (23, .long (x23_11)), (21, .long (x21_10)), (19, .long (x19_9)), (17, .long (x17_8)), (15, .long (x15_7)), (13, .long (x13_6)), (11, .long (x11_5)), (9, .long (x9_4)), (7, .long (x7_3)), (5, .long (x5_2)), (3, .long (x3_1)), (0, .ref (r (k1))), (1, .ref (r (k2))), (2, .ref (r (k3)))]) C.1 C.2.1 dX4_multiplyLimbs_217 hl (by decide) rfl (fun ls hl => ?_)
  refine lv_aload_n C.1 C.2.1 dX4_multiplyLimbs_219 rfl (lv_at hl 34 rfl) ?_
  refine lv_iconst (v := 0) C.1 C.2.1 dX4_multiplyLimbs_220 (by decide) ?_
  refine lv_lload_n C.1 C.2.1 dX4_multiplyLimbs_221 rfl (lv_at hl 33 rfl) ?_
  refine lv_lload C.1 C.2.1 dX4_multiplyLimbs_222 (lv_at hl 23 rfl) ?_
  refine lv_lmul C.1 C.2.1 dX4_multiplyLimbs_224 ?_
  refine lv_lload C.1 C.2.1 dX4_multiplyLimbs_225 (lv_at hl 13 rfl) ?_
  refine lv_lload C.1 C.2.1 dX4_multiplyLimbs_227 (lv_at hl 0 rfl) ?_
  refine lv_lmul C.1 C.2.1 dX4_multiplyLimbs_229 ?_
  refine lv_ladd C.1 C.2.1 dX4_multiplyLimbs_230 ?_
  refine lv_lload C.1 C.2.1 dX4_multiplyLimbs_231 (lv_at hl 31 rfl) ?_
  refine lv_lload C.1 C.2.1 dX4_multiplyLimbs_233 (lv_at hl 1 rfl) ?_
  refine lv_lmul C.1 C.2.1 dX4_multiplyLimbs_235 ?_
  refine lv_ladd C.1 C.2.1 dX4_multiplyLimbs_236 ?_
  refine lv_lload C.1 C.2.1 dX4_multiplyLimbs_237 (lv_at hl 12 rfl) ?_
  refine lv_lload C.1 C.2.1 dX4_multiplyLimbs_239 (lv_at hl 2 rfl) ?_
  refine lv_lmul C.1 C.2.1 dX4_multiplyLimbs_241 ?_
  refine lv_ladd C.1 C.2.1 dX4_multiplyLimbs_242 ?_
  refine lv_lload C.1 C.2.1 dX4_multiplyLimbs_243 (lv_at hl 29 rfl) ?_
  refine lv_lload C.1 C.2.1 dX4_multiplyLimbs_245 (lv_at hl 3 rfl) ?_
  refine lv_lmul C.1 C.2.1 dX4_multiplyLimbs_247 ?_
  refine lv_ladd C.1 C.2.1 dX4_multiplyLimbs_248 ?_
  refine lv_lload C.1 C.2.1 dX4_multiplyLimbs_249 (lv_at hl 11 rfl) ?_
  refine lv_lload C.1 C.2.1 dX4_multiplyLimbs_251 (lv_at hl 4 rfl) ?_
  refine lv_lmul C.1 C.2.1 dX4_multiplyLimbs_253 ?_
  refine lv_ladd C.1 C.2.1 dX4_multiplyLimbs_254 ?_
  refine lv_lload C.1 C.2.1 dX4_multiplyLimbs_255 (lv_at hl 27 rfl) ?_
  refine lv_lload C.1 C.2.1 dX4_multiplyLimbs_257 (lv_at hl 5 rfl) ?_
  refine lv_lmul C.1 C.2.1 dX4_multiplyLimbs_259 ?_
  refine lv_ladd C.1 C.2.1 dX4_multiplyLimbs_260 ?_
  refine lv_lload C.1 C.2.1 dX4_multiplyLimbs_261 (lv_at hl 10 rfl) ?_
  refine lv_lload C.1 C.2.1 dX4_multiplyLimbs_263 (lv_at hl 6 rfl) ?_
  refine lv_lmul C.1 C.2.1 dX4_multiplyLimbs_265 ?_
  refine lv_ladd C.1 C.2.1 dX4_multiplyLimbs_266 ?_
  refine lv_lload C.1 C.2.1 dX4_multiplyLimbs_267 (lv_at hl 25 rfl) ?_
  refine lv_lload C.1 C.2.1 dX4_multiplyLimbs_269 (lv_at hl 7 rfl) ?_
  refine lv_lmul C.1 C.2.1 dX4_multiplyLimbs_271 ?_
  refine lv_ladd C.1 C.2.1 dX4_multiplyLimbs_272 ?_
  refine lv_lload C.1 C.2.1 dX4_multiplyLimbs_273 (lv_at hl 9 rfl) ?_
  refine lv_lload C.1 C.2.1 dX4_multiplyLimbs_275 (lv_at hl 8 rfl) ?_
  refine lv_lmul C.1 C.2.1 dX4_multiplyLimbs_277 ?_
  refine lv_ladd C.1 C.2.1 dX4_multiplyLimbs_278 ?_
  refine m_last C w (k := k1) (i := 0) (n := n1) (x := (((((((((((x3_1) * (x23_11)) + ((x43_21) * (x69_34))) + ((x7_3) * (x67_33))) + ((x45_22) * (x65_32))) + ((x11_5) * (x63_31))) + ((x47_23) * (x61_30))) + ((x15_7) * (x59_29))) + ((x49_24) * (x57_28))) + ((x19_9) * (x55_27))) + ((x51_25) * (x53_26)))) hk1 hs1 (by omega) hn1 dX4_multiplyLimbs_279 (fun H locs w => ?_)
  obtain ⟨M_35, eM_35⟩ : ∃ zz, zz = mm_wl M k1 0 (((((((((((x3_1) * (x23_11)) + ((x43_21) * (x69_34))) + ((x7_3) * (x67_33))) + ((x45_22) * (x65_32))) + ((x11_5) * (x63_31))) + ((x47_23) * (x61_30))) + ((x15_7) * (x59_29))) + ((x49_24) * (x57_28))) + ((x19_9) * (x55_27))) + ((x51_25) * (x53_26))) := ⟨_, rfl⟩
  rw [← eM_35] at w
  refine lv_aload_n C.1 C.2.1 dX4_multiplyLimbs_280 rfl (lv_at hl 34 rfl) ?_
  refine lv_iconst (v := 1) C.1 C.2.1 dX4_multiplyLimbs_281 (by decide) ?_
  refine lv_lload_n C.1 C.2.1 dX4_multiplyLimbs_282 rfl (lv_at hl 33 rfl) ?_
  refine lv_lload C.1 C.2.1 dX4_multiplyLimbs_283 (lv_at hl 22 rfl) ?_
  refine lv_lmul C.1 C.2.1 dX4_multiplyLimbs_285 ?_
  refine lv_lload C.1 C.2.1 dX4_multiplyLimbs_286 (lv_at hl 32 rfl) ?_
  refine lv_lload C.1 C.2.1 dX4_multiplyLimbs_288 (lv_at hl 23 rfl) ?_
  refine lv_lmul C.1 C.2.1 dX4_multiplyLimbs_290 ?_
  refine lv_ladd C.1 C.2.1 dX4_multiplyLimbs_291 ?_
  refine lv_lload C.1 C.2.1 dX4_multiplyLimbs_292 (lv_at hl 31 rfl) ?_
  refine lv_lload C.1 C.2.1 dX4_multiplyLimbs_294 (lv_at hl 0 rfl) ?_
  refine lv_lmul C.1 C.2.1 dX4_multiplyLimbs_296 ?_
  refine lv_ladd C.1 C.2.1 dX4_multiplyLimbs_297 ?_
  refine lv_lload C.1 C.2.1 dX4_multiplyLimbs_298 (lv_at hl 30 rfl) ?_
  refine lv_lload C.1 C.2.1 dX4_multiplyLimbs_300 (lv_at hl 1 rfl) ?_
  refine lv_lmul C.1 C.2.1 dX4_multiplyLimbs_302 ?_
  refine lv_ladd C.1 C.2.1 dX4_multiplyLimbs_303 ?_
  refine lv_lload C.1 C.2.1 dX4_multiplyLimbs_304 (lv_at hl 29 rfl) ?_
  refine lv_lload C.1 C.2.1 dX4_multiplyLimbs_306 (lv_at hl 2 rfl) ?_
  refine lv_lmul C.1 C.2.1 dX4_multiplyLimbs_308 ?_
  refine lv_ladd C.1 C.2.1 dX4_multiplyLimbs_309 ?_
  refine lv_lload C.1 C.2.1 dX4_multiplyLimbs_310 (lv_at hl 28 rfl) ?_
  refine lv_lload C.1 C.2.1 dX4_multiplyLimbs_312 (lv_at hl 3 rfl) ?_
  refine lv_lmul C.1 C.2.1 dX4_multiplyLimbs_314 ?_
  refine lv_ladd C.1 C.2.1 dX4_multiplyLimbs_315 ?_
  refine lv_lload C.1 C.2.1 dX4_multiplyLimbs_316 (lv_at hl 27 rfl) ?_
  refine lv_lload C.1 C.2.1 dX4_multiplyLimbs_318 (lv_at hl 4 rfl) ?_
  refine lv_lmul C.1 C.2.1 dX4_multiplyLimbs_320 ?_
  refine lv_ladd C.1 C.2.1 dX4_multiplyLimbs_321 ?_
  refine lv_lload C.1 C.2.1 dX4_multiplyLimbs_322 (lv_at hl 26 rfl) ?_
  refine lv_lload C.1 C.2.1 dX4_multiplyLimbs_324 (lv_at hl 5 rfl) ?_
  refine lv_lmul C.1 C.2.1 dX4_multiplyLimbs_326 ?_
  refine lv_ladd C.1 C.2.1 dX4_multiplyLimbs_327 ?_
  refine lv_lload C.1 C.2.1 dX4_multiplyLimbs_328 (lv_at hl 25 rfl) ?_
  refine lv_lload C.1 C.2.1 dX4_multiplyLimbs_330 (lv_at hl 6 rfl) ?_
  refine lv_lmul C.1 C.2.1 dX4_multiplyLimbs_332 ?_
  refine lv_ladd C.1 C.2.1 dX4_multiplyLimbs_333 ?_
  refine lv_lload C.1 C.2.1 dX4_multiplyLimbs_334 (lv_at hl 24 rfl) ?_
  refine lv_lload C.1 C.2.1 dX4_multiplyLimbs_336 (lv_at hl 7 rfl) ?_
  refine lv_lmul C.1 C.2.1 dX4_multiplyLimbs_338 ?_
  refine lv_ladd C.1 C.2.1 dX4_multiplyLimbs_339 ?_
  refine m_last C w (k := k1) (i := 1) (n := n1) (x := (((((((((((x3_1) * (x25_12)) + ((x5_2) * (x23_11))) + ((x7_3) * (x69_34))) + ((x9_4) * (x67_33))) + ((x11_5) * (x65_32))) + ((x13_6) * (x63_31))) + ((x15_7) * (x61_30))) + ((x17_8) * (x59_29))) + ((x19_9) * (x57_28))) + ((x21_10) * (x55_27)))) hk1 hs1 (by omega) hn1 dX4_multiplyLimbs_340 (fun H locs w => ?_)
  obtain ⟨M_36, eM_36⟩ : ∃ zz, zz = mm_wl M_35 k1 1 (((((((((((x3_1) * (x25_12)) + ((x5_2) * (x23_11))) + ((x7_3) * (x69_34))) + ((x9_4) * (x67_33))) + ((x11_5) * (x65_32))) + ((x13_6) * (x63_31))) + ((x15_7) * (x61_30))) + ((x17_8) * (x59_29))) + ((x19_9) * (x57_28))) + ((x21_10) * (x55_27))) := ⟨_, rfl⟩
  rw [← eM_36] at w
  refine lv_aload_n C.1 C.2.1 dX4_multiplyLimbs_341 rfl (lv_at hl 34 rfl) ?_
  refine lv_iconst (v := 2) C.1 C.2.1 dX4_multiplyLimbs_342 (by decide) ?_
  refine lv_lload_n C.1 C.2.1 dX4_multiplyLimbs_343 rfl (lv_at hl 33 rfl) ?_
  refine lv_lload C.1 C.2.1 dX4_multiplyLimbs_344 (lv_at hl 21 rfl) ?_
  refine lv_lmul C.1 C.2.1 dX4_multiplyLimbs_346 ?_
  refine lv_lload C.1 C.2.1 dX4_multiplyLimbs_347 (lv_at hl 13 rfl) ?_
  refine lv_lload C.1 C.2.1 dX4_multiplyLimbs_349 (lv_at hl 22 rfl) ?_
  refine lv_lmul C.1 C.2.1 dX4_multiplyLimbs_351 ?_
  refine lv_ladd C.1 C.2.1 dX4_multiplyLimbs_352 ?_
  refine lv_lload C.1 C.2.1 dX4_multiplyLimbs_353 (lv_at hl 31 rfl) ?_
  refine lv_lload C.1 C.2.1 dX4_multiplyLimbs_355 (lv_at hl 23 rfl) ?_
  refine lv_lmul C.1 C.2.1 dX4_multiplyLimbs_357 ?_
  refine lv_ladd C.1 C.2.1 dX4_multiplyLimbs_358 ?_
  refine lv_lload C.1 C.2.1 dX4_multiplyLimbs_359 (lv_at hl 12 rfl) ?_
  refine lv_lload C.1 C.2.1 dX4_multiplyLimbs_361 (lv_at hl 0 rfl) ?_
  refine lv_lmul C.1 C.2.1 dX4_multiplyLimbs_363 ?_
  refine lv_ladd C.1 C.2.1 dX4_multiplyLimbs_364 ?_
  refine lv_lload C.1 C.2.1 dX4_multiplyLimbs_365 (lv_at hl 29 rfl) ?_
  refine lv_lload C.1 C.2.1 dX4_multiplyLimbs_367 (lv_at hl 1 rfl) ?_
  refine lv_lmul C.1 C.2.1 dX4_multiplyLimbs_369 ?_
  refine lv_ladd C.1 C.2.1 dX4_multiplyLimbs_370 ?_
  refine lv_lload C.1 C.2.1 dX4_multiplyLimbs_371 (lv_at hl 11 rfl) ?_
  refine lv_lload C.1 C.2.1 dX4_multiplyLimbs_373 (lv_at hl 2 rfl) ?_
  refine lv_lmul C.1 C.2.1 dX4_multiplyLimbs_375 ?_
  refine lv_ladd C.1 C.2.1 dX4_multiplyLimbs_376 ?_
  refine lv_lload C.1 C.2.1 dX4_multiplyLimbs_377 (lv_at hl 27 rfl) ?_
  refine lv_lload C.1 C.2.1 dX4_multiplyLimbs_379 (lv_at hl 3 rfl) ?_
  refine lv_lmul C.1 C.2.1 dX4_multiplyLimbs_381 ?_
  refine lv_ladd C.1 C.2.1 dX4_multiplyLimbs_382 ?_
  refine lv_lload C.1 C.2.1 dX4_multiplyLimbs_383 (lv_at hl 10 rfl) ?_
  refine lv_lload C.1 C.2.1 dX4_multiplyLimbs_385 (lv_at hl 4 rfl) ?_
  refine lv_lmul C.1 C.2.1 dX4_multiplyLimbs_387 ?_
  refine lv_ladd C.1 C.2.1 dX4_multiplyLimbs_388 ?_
  refine lv_lload C.1 C.2.1 dX4_multiplyLimbs_389 (lv_at hl 25 rfl) ?_
  refine lv_lload C.1 C.2.1 dX4_multiplyLimbs_391 (lv_at hl 5 rfl) ?_
  refine lv_lmul C.1 C.2.1 dX4_multiplyLimbs_393 ?_
  refine lv_ladd C.1 C.2.1 dX4_multiplyLimbs_394 ?_
  refine lv_lload C.1 C.2.1 dX4_multiplyLimbs_395 (lv_at hl 9 rfl) ?_
  refine lv_lload C.1 C.2.1 dX4_multiplyLimbs_397 (lv_at hl 6 rfl) ?_
  refine lv_lmul C.1 C.2.1 dX4_multiplyLimbs_399 ?_
  refine lv_ladd C.1 C.2.1 dX4_multiplyLimbs_400 ?_
  refine m_last C w (k := k1) (i := 2) (n := n1) (x := (((((((((((x3_1) * (x27_13)) + ((x43_21) * (x25_12))) + ((x7_3) * (x23_11))) + ((x45_22) * (x69_34))) + ((x11_5) * (x67_33))) + ((x47_23) * (x65_32))) + ((x15_7) * (x63_31))) + ((x49_24) * (x61_30))) + ((x19_9) * (x59_29))) + ((x51_25) * (x57_28)))) hk1 hs1 (by omega) hn1 dX4_multiplyLimbs_401 (fun H locs w => ?_)
  obtain ⟨M_37, eM_37⟩ : ∃ zz, zz = mm_wl M_36 k1 2 (((((((((((x3_1) * (x27_13)) + ((x43_21) * (x25_12))) + ((x7_3) * (x23_11))) + ((x45_22) * (x69_34))) + ((x11_5) * (x67_33))) + ((x47_23) * (x65_32))) + ((x15_7) * (x63_31))) + ((x49_24) * (x61_30))) + ((x19_9) * (x59_29))) + ((x51_25) * (x57_28))) := ⟨_, rfl⟩
  rw [← eM_37] at w
  refine lv_aload_n C.1 C.2.1 dX4_multiplyLimbs_402 rfl (lv_at hl 34 rfl) ?_
  refine lv_iconst (v := 3) C.1 C.2.1 dX4_multiplyLimbs_403 (by decide) ?_
  refine lv_lload_n C.1 C.2.1 dX4_multiplyLimbs_404 rfl (lv_at hl 33 rfl) ?_
  refine lv_lload C.1 C.2.1 dX4_multiplyLimbs_405 (lv_at hl 20 rfl) ?_
  refine lv_lmul C.1 C.2.1 dX4_multiplyLimbs_407 ?_
  refine lv_lload C.1 C.2.1 dX4_multiplyLimbs_408 (lv_at hl 32 rfl) ?_
  refine lv_lload C.1 C.2.1 dX4_multiplyLimbs_410 (lv_at hl 21 rfl) ?_
  refine lv_lmul C.1 C.2.1 dX4_multiplyLimbs_412 ?_
  refine lv_ladd C.1 C.2.1 dX4_multiplyLimbs_413 ?_
  refine lv_lload C.1 C.2.1 dX4_multiplyLimbs_414 (lv_at hl 31 rfl) ?_
  refine lv_lload C.1 C.2.1 dX4_multiplyLimbs_416 (lv_at hl 22 rfl) ?_
  refine lv_lmul C.1 C.2.1 dX4_multiplyLimbs_418 ?_
  refine lv_ladd C.1 C.2.1 dX4_multiplyLimbs_419 ?_
  refine lv_lload C.1 C.2.1 dX4_multiplyLimbs_420 (lv_at hl 30 rfl) ?_
  refine lv_lload C.1 C.2.1 dX4_multiplyLimbs_422 (lv_at hl 23 rfl) ?_
  refine lv_lmul C.1 C.2.1 dX4_multiplyLimbs_424 ?_
  refine lv_ladd C.1 C.2.1 dX4_multiplyLimbs_425 ?_
  refine lv_lload C.1 C.2.1 dX4_multiplyLimbs_426 (lv_at hl 29 rfl) ?_
  refine lv_lload C.1 C.2.1 dX4_multiplyLimbs_428 (lv_at hl 0 rfl) ?_
  refine lv_lmul C.1 C.2.1 dX4_multiplyLimbs_430 ?_
  refine lv_ladd C.1 C.2.1 dX4_multiplyLimbs_431 ?_
  refine lv_lload C.1 C.2.1 dX4_multiplyLimbs_432 (lv_at hl 28 rfl) ?_
  refine lv_lload C.1 C.2.1 dX4_multiplyLimbs_434 (lv_at hl 1 rfl) ?_
  refine lv_lmul C.1 C.2.1 dX4_multiplyLimbs_436 ?_
  refine lv_ladd C.1 C.2.1 dX4_multiplyLimbs_437 ?_
  refine lv_lload C.1 C.2.1 dX4_multiplyLimbs_438 (lv_at hl 27 rfl) ?_
  refine lv_lload C.1 C.2.1 dX4_multiplyLimbs_440 (lv_at hl 2 rfl) ?_
  refine lv_lmul C.1 C.2.1 dX4_multiplyLimbs_442 ?_
  refine lv_ladd C.1 C.2.1 dX4_multiplyLimbs_443 ?_
  refine lv_lload C.1 C.2.1 dX4_multiplyLimbs_444 (lv_at hl 26 rfl) ?_
  refine lv_lload C.1 C.2.1 dX4_multiplyLimbs_446 (lv_at hl 3 rfl) ?_
  refine lv_lmul C.1 C.2.1 dX4_multiplyLimbs_448 ?_
  refine lv_ladd C.1 C.2.1 dX4_multiplyLimbs_449 ?_
  refine lv_lload C.1 C.2.1 dX4_multiplyLimbs_450 (lv_at hl 25 rfl) ?_
  refine lv_lload C.1 C.2.1 dX4_multiplyLimbs_452 (lv_at hl 4 rfl) ?_
  refine lv_lmul C.1 C.2.1 dX4_multiplyLimbs_454 ?_
  refine lv_ladd C.1 C.2.1 dX4_multiplyLimbs_455 ?_
  refine lv_lload C.1 C.2.1 dX4_multiplyLimbs_456 (lv_at hl 24 rfl) ?_
  refine lv_lload C.1 C.2.1 dX4_multiplyLimbs_458 (lv_at hl 5 rfl) ?_
  refine lv_lmul C.1 C.2.1 dX4_multiplyLimbs_460 ?_
  refine lv_ladd C.1 C.2.1 dX4_multiplyLimbs_461 ?_
  refine m_last C w (k := k1) (i := 3) (n := n1) (x := (((((((((((x3_1) * (x29_14)) + ((x5_2) * (x27_13))) + ((x7_3) * (x25_12))) + ((x9_4) * (x23_11))) + ((x11_5) * (x69_34))) + ((x13_6) * (x67_33))) + ((x15_7) * (x65_32))) + ((x17_8) * (x63_31))) + ((x19_9) * (x61_30))) + ((x21_10) * (x59_29)))) hk1 hs1 (by omega) hn1 dX4_multiplyLimbs_462 (fun H locs w => ?_)
  obtain ⟨M_38, eM_38⟩ : ∃ zz, zz = mm_wl M_37 k1 3 (((((((((((x3_1) * (x29_14)) + ((x5_2) * (x27_13))) + ((x7_3) * (x25_12))) + ((x9_4) * (x23_11))) + ((x11_5) * (x69_34))) + ((x13_6) * (x67_33))) + ((x15_7) * (x65_32))) + ((x17_8) * (x63_31))) + ((x19_9) * (x61_30))) + ((x21_10) * (x59_29))) := ⟨_, rfl⟩
  rw [← eM_38] at w
  refine lv_aload_n C.1 C.2.1 dX4_multiplyLimbs_463 rfl (lv_at hl 34 rfl) ?_
  refine lv_iconst (v := 4) C.1 C.2.1 dX4_multiplyLimbs_464 (by decide) ?_
  refine lv_lload_n C.1 C.2.1 dX4_multiplyLimbs_465 rfl (lv_at hl 33 rfl) ?_
  refine lv_lload C.1 C.2.1 dX4_multiplyLimbs_466 (lv_at hl 19 rfl) ?_
  refine lv_lmul C.1 C.2.1 dX4_multiplyLimbs_468 ?_
  refine lv_lload C.1 C.2.1 dX4_multiplyLimbs_469 (lv_at hl 13 rfl) ?_
  refine lv_lload C.1 C.2.1 dX4_multiplyLimbs_471 (lv_at hl 20 rfl) ?_
  refine lv_lmul C.1 C.2.1 dX4_multiplyLimbs_473 ?_
  refine lv_ladd C.1 C.2.1 dX4_multiplyLimbs_474 ?_
  refine lv_lload C.1 C.2.1 dX4_multiplyLimbs_475 (lv_at hl 31 rfl) ?_
  refine lv_lload C.1 C.2.1 dX4_multiplyLimbs_477 (lv_at hl 21 rfl) ?_
  refine lv_lmul C.1 C.2.1 dX4_multiplyLimbs_479 ?_
  refine lv_ladd C.1 C.2.1 dX4_multiplyLimbs_480 ?_
  refine lv_lload C.1 C.2.1 dX4_multiplyLimbs_481 (lv_at hl 12 rfl) ?_
  refine lv_lload C.1 C.2.1 dX4_multiplyLimbs_483 (lv_at hl 22 rfl) ?_
  refine lv_lmul C.1 C.2.1 dX4_multiplyLimbs_485 ?_
  refine lv_ladd C.1 C.2.1 dX4_multiplyLimbs_486 ?_
  refine lv_lload C.1 C.2.1 dX4_multiplyLimbs_487 (lv_at hl 29 rfl) ?_
  refine lv_lload C.1 C.2.1 dX4_multiplyLimbs_489 (lv_at hl 23 rfl) ?_
  refine lv_lmul C.1 C.2.1 dX4_multiplyLimbs_491 ?_
  refine lv_ladd C.1 C.2.1 dX4_multiplyLimbs_492 ?_
  refine lv_lload C.1 C.2.1 dX4_multiplyLimbs_493 (lv_at hl 11 rfl) ?_
  refine lv_lload C.1 C.2.1 dX4_multiplyLimbs_495 (lv_at hl 0 rfl) ?_
  refine lv_lmul C.1 C.2.1 dX4_multiplyLimbs_497 ?_
  refine lv_ladd C.1 C.2.1 dX4_multiplyLimbs_498 ?_
  refine lv_lload C.1 C.2.1 dX4_multiplyLimbs_499 (lv_at hl 27 rfl) ?_
  refine lv_lload C.1 C.2.1 dX4_multiplyLimbs_501 (lv_at hl 1 rfl) ?_
  refine lv_lmul C.1 C.2.1 dX4_multiplyLimbs_503 ?_
  refine lv_ladd C.1 C.2.1 dX4_multiplyLimbs_504 ?_
  refine lv_lload C.1 C.2.1 dX4_multiplyLimbs_505 (lv_at hl 10 rfl) ?_
  refine lv_lload C.1 C.2.1 dX4_multiplyLimbs_507 (lv_at hl 2 rfl) ?_
  refine lv_lmul C.1 C.2.1 dX4_multiplyLimbs_509 ?_
  refine lv_ladd C.1 C.2.1 dX4_multiplyLimbs_510 ?_
  refine lv_lload C.1 C.2.1 dX4_multiplyLimbs_511 (lv_at hl 25 rfl) ?_
  refine lv_lload C.1 C.2.1 dX4_multiplyLimbs_513 (lv_at hl 3 rfl) ?_
  refine lv_lmul C.1 C.2.1 dX4_multiplyLimbs_515 ?_
  refine lv_ladd C.1 C.2.1 dX4_multiplyLimbs_516 ?_
  refine lv_lload C.1 C.2.1 dX4_multiplyLimbs_517 (lv_at hl 9 rfl) ?_
  refine lv_lload C.1 C.2.1 dX4_multiplyLimbs_519 (lv_at hl 4 rfl) ?_
  refine lv_lmul C.1 C.2.1 dX4_multiplyLimbs_521 ?_
  refine lv_ladd C.1 C.2.1 dX4_multiplyLimbs_522 ?_
  refine m_last C w (k := k1) (i := 4) (n := n1) (x := (((((((((((x3_1) * (x31_15)) + ((x43_21) * (x29_14))) + ((x7_3) * (x27_13))) + ((x45_22) * (x25_12))) + ((x11_5) * (x23_11))) + ((x47_23) * (x69_34))) + ((x15_7) * (x67_33))) + ((x49_24) * (x65_32))) + ((x19_9) * (x63_31))) + ((x51_25) * (x61_30)))) hk1 hs1 (by omega) hn1 dX4_multiplyLimbs_523 (fun H locs w => ?_)
  obtain ⟨M_39, eM_39⟩ : ∃ zz, zz = mm_wl M_38 k1 4 (((((((((((x3_1) * (x31_15)) + ((x43_21) * (x29_14))) + ((x7_3) * (x27_13))) + ((x45_22) * (x25_12))) + ((x11_5) * (x23_11))) + ((x47_23) * (x69_34))) + ((x15_7) * (x67_33))) + ((x49_24) * (x65_32))) + ((x19_9) * (x63_31))) + ((x51_25) * (x61_30))) := ⟨_, rfl⟩
  rw [← eM_39] at w
  refine lv_aload_n C.1 C.2.1 dX4_multiplyLimbs_524 rfl (lv_at hl 34 rfl) ?_
  refine lv_iconst (v := 5) C.1 C.2.1 dX4_multiplyLimbs_525 (by decide) ?_
  refine lv_lload_n C.1 C.2.1 dX4_multiplyLimbs_526 rfl (lv_at hl 33 rfl) ?_
  refine lv_lload C.1 C.2.1 dX4_multiplyLimbs_527 (lv_at hl 18 rfl) ?_
  refine lv_lmul C.1 C.2.1 dX4_multiplyLimbs_529 ?_
  refine lv_lload C.1 C.2.1 dX4_multiplyLimbs_530 (lv_at hl 32 rfl) ?_
  refine lv_lload C.1 C.2.1 dX4_multiplyLimbs_532 (lv_at hl 19 rfl) ?_
  refine lv_lmul C.1 C.2.1 dX4_multiplyLimbs_534 ?_
  refine lv_ladd C.1 C.2.1 dX4_multiplyLimbs_535 ?_
  refine lv_lload C.1 C.2.1 dX4_multiplyLimbs_536 (lv_at hl 31 rfl) ?_
  refine lv_lload C.1 C.2.1 dX4_multiplyLimbs_538 (lv_at hl 20 rfl) ?_
  refine lv_lmul C.1 C.2.1 dX4_multiplyLimbs_540 ?_
  refine lv_ladd C.1 C.2.1 dX4_multiplyLimbs_541 ?_
  refine lv_lload C.1 C.2.1 dX4_multiplyLimbs_542 (lv_at hl 30 rfl) ?_
  refine lv_lload C.1 C.2.1 dX4_multiplyLimbs_544 (lv_at hl 21 rfl) ?_
  refine lv_lmul C.1 C.2.1 dX4_multiplyLimbs_546 ?_
  refine lv_ladd C.1 C.2.1 dX4_multiplyLimbs_547 ?_
  refine lv_lload C.1 C.2.1 dX4_multiplyLimbs_548 (lv_at hl 29 rfl) ?_
  refine lv_lload C.1 C.2.1 dX4_multiplyLimbs_550 (lv_at hl 22 rfl) ?_
  refine lv_lmul C.1 C.2.1 dX4_multiplyLimbs_552 ?_
  refine lv_ladd C.1 C.2.1 dX4_multiplyLimbs_553 ?_
  refine lv_lload C.1 C.2.1 dX4_multiplyLimbs_554 (lv_at hl 28 rfl) ?_
  refine lv_lload C.1 C.2.1 dX4_multiplyLimbs_556 (lv_at hl 23 rfl) ?_
  refine lv_lmul C.1 C.2.1 dX4_multiplyLimbs_558 ?_
  refine lv_ladd C.1 C.2.1 dX4_multiplyLimbs_559 ?_
  refine lv_lload C.1 C.2.1 dX4_multiplyLimbs_560 (lv_at hl 27 rfl) ?_
  refine lv_lload C.1 C.2.1 dX4_multiplyLimbs_562 (lv_at hl 0 rfl) ?_
  refine lv_lmul C.1 C.2.1 dX4_multiplyLimbs_564 ?_
  refine lv_ladd C.1 C.2.1 dX4_multiplyLimbs_565 ?_
  refine lv_lload C.1 C.2.1 dX4_multiplyLimbs_566 (lv_at hl 26 rfl) ?_
  refine lv_lload C.1 C.2.1 dX4_multiplyLimbs_568 (lv_at hl 1 rfl) ?_
  refine lv_lmul C.1 C.2.1 dX4_multiplyLimbs_570 ?_
  refine lv_ladd C.1 C.2.1 dX4_multiplyLimbs_571 ?_
  refine lv_lload C.1 C.2.1 dX4_multiplyLimbs_572 (lv_at hl 25 rfl) ?_
  refine lv_lload C.1 C.2.1 dX4_multiplyLimbs_574 (lv_at hl 2 rfl) ?_
  refine lv_lmul C.1 C.2.1 dX4_multiplyLimbs_576 ?_
  refine lv_ladd C.1 C.2.1 dX4_multiplyLimbs_577 ?_
  refine lv_lload C.1 C.2.1 dX4_multiplyLimbs_578 (lv_at hl 24 rfl) ?_
  refine lv_lload C.1 C.2.1 dX4_multiplyLimbs_580 (lv_at hl 3 rfl) ?_
  refine lv_lmul C.1 C.2.1 dX4_multiplyLimbs_582 ?_
  refine lv_ladd C.1 C.2.1 dX4_multiplyLimbs_583 ?_
  refine m_last C w (k := k1) (i := 5) (n := n1) (x := (((((((((((x3_1) * (x33_16)) + ((x5_2) * (x31_15))) + ((x7_3) * (x29_14))) + ((x9_4) * (x27_13))) + ((x11_5) * (x25_12))) + ((x13_6) * (x23_11))) + ((x15_7) * (x69_34))) + ((x17_8) * (x67_33))) + ((x19_9) * (x65_32))) + ((x21_10) * (x63_31)))) hk1 hs1 (by omega) hn1 dX4_multiplyLimbs_584 (fun H locs w => ?_)
  obtain ⟨M_40, eM_40⟩ : ∃ zz, zz = mm_wl M_39 k1 5 (((((((((((x3_1) * (x33_16)) + ((x5_2) * (x31_15))) + ((x7_3) * (x29_14))) + ((x9_4) * (x27_13))) + ((x11_5) * (x25_12))) + ((x13_6) * (x23_11))) + ((x15_7) * (x69_34))) + ((x17_8) * (x67_33))) + ((x19_9) * (x65_32))) + ((x21_10) * (x63_31))) := ⟨_, rfl⟩
  rw [← eM_40] at w
  refine lv_aload_n C.1 C.2.1 dX4_multiplyLimbs_585 rfl (lv_at hl 34 rfl) ?_
  refine lv_bipush (v := 6) C.1 C.2.1 dX4_multiplyLimbs_586 (by decide) ?_
  refine lv_lload_n C.1 C.2.1 dX4_multiplyLimbs_588 rfl (lv_at hl 33 rfl) ?_
  refine lv_lload C.1 C.2.1 dX4_multiplyLimbs_589 (lv_at hl 17 rfl) ?_
  refine lv_lmul C.1 C.2.1 dX4_multiplyLimbs_591 ?_
  refine lv_lload C.1 C.2.1 dX4_multiplyLimbs_592 (lv_at hl 13 rfl) ?_
  refine lv_lload C.1 C.2.1 dX4_multiplyLimbs_594 (lv_at hl 18 rfl) ?_
  refine lv_lmul C.1 C.2.1 dX4_multiplyLimbs_596 ?_
  refine lv_ladd C.1 C.2.1 dX4_multiplyLimbs_597 ?_
  refine lv_lload C.1 C.2.1 dX4_multiplyLimbs_598 (lv_at hl 31 rfl) ?_
  refine lv_lload C.1 C.2.1 dX4_multiplyLimbs_600 (lv_at hl 19 rfl) ?_
  refine lv_lmul C.1 C.2.1 dX4_multiplyLimbs_602 ?_
  refine lv_ladd C.1 C.2.1 dX4_multiplyLimbs_603 ?_
  refine lv_lload C.1 C.2.1 dX4_multiplyLimbs_604 (lv_at hl 12 rfl) ?_
  refine lv_lload C.1 C.2.1 dX4_multiplyLimbs_606 (lv_at hl 20 rfl) ?_
  refine lv_lmul C.1 C.2.1 dX4_multiplyLimbs_608 ?_
  refine lv_ladd C.1 C.2.1 dX4_multiplyLimbs_609 ?_
  refine lv_lload C.1 C.2.1 dX4_multiplyLimbs_610 (lv_at hl 29 rfl) ?_
  refine lv_lload C.1 C.2.1 dX4_multiplyLimbs_612 (lv_at hl 21 rfl) ?_
  refine lv_lmul C.1 C.2.1 dX4_multiplyLimbs_614 ?_
  refine lv_ladd C.1 C.2.1 dX4_multiplyLimbs_615 ?_
  refine lv_lload C.1 C.2.1 dX4_multiplyLimbs_616 (lv_at hl 11 rfl) ?_
  refine lv_lload C.1 C.2.1 dX4_multiplyLimbs_618 (lv_at hl 22 rfl) ?_
  refine lv_lmul C.1 C.2.1 dX4_multiplyLimbs_620 ?_
  refine lv_ladd C.1 C.2.1 dX4_multiplyLimbs_621 ?_
  refine lv_lload C.1 C.2.1 dX4_multiplyLimbs_622 (lv_at hl 27 rfl) ?_
  refine lv_lload C.1 C.2.1 dX4_multiplyLimbs_624 (lv_at hl 23 rfl) ?_
  refine lv_lmul C.1 C.2.1 dX4_multiplyLimbs_626 ?_
  refine lv_ladd C.1 C.2.1 dX4_multiplyLimbs_627 ?_
  refine lv_lload C.1 C.2.1 dX4_multiplyLimbs_628 (lv_at hl 10 rfl) ?_
  refine lv_lload C.1 C.2.1 dX4_multiplyLimbs_630 (lv_at hl 0 rfl) ?_
  refine lv_lmul C.1 C.2.1 dX4_multiplyLimbs_632 ?_
  refine lv_ladd C.1 C.2.1 dX4_multiplyLimbs_633 ?_
  refine lv_lload C.1 C.2.1 dX4_multiplyLimbs_634 (lv_at hl 25 rfl) ?_
  refine lv_lload C.1 C.2.1 dX4_multiplyLimbs_636 (lv_at hl 1 rfl) ?_
  refine lv_lmul C.1 C.2.1 dX4_multiplyLimbs_638 ?_
  refine lv_ladd C.1 C.2.1 dX4_multiplyLimbs_639 ?_
  refine lv_lload C.1 C.2.1 dX4_multiplyLimbs_640 (lv_at hl 9 rfl) ?_
  refine lv_lload C.1 C.2.1 dX4_multiplyLimbs_642 (lv_at hl 2 rfl) ?_
  refine lv_lmul C.1 C.2.1 dX4_multiplyLimbs_644 ?_
  refine lv_ladd C.1 C.2.1 dX4_multiplyLimbs_645 ?_
  refine m_last C w (k := k1) (i := 6) (n := n1) (x := (((((((((((x3_1) * (x35_17)) + ((x43_21) * (x33_16))) + ((x7_3) * (x31_15))) + ((x45_22) * (x29_14))) + ((x11_5) * (x27_13))) + ((x47_23) * (x25_12))) + ((x15_7) * (x23_11))) + ((x49_24) * (x69_34))) + ((x19_9) * (x67_33))) + ((x51_25) * (x65_32)))) hk1 hs1 (by omega) hn1 dX4_multiplyLimbs_646 (fun H locs w => ?_)
  obtain ⟨M_41, eM_41⟩ : ∃ zz, zz = mm_wl M_40 k1 6 (((((((((((x3_1) * (x35_17)) + ((x43_21) * (x33_16))) + ((x7_3) * (x31_15))) + ((x45_22) * (x29_14))) + ((x11_5) * (x27_13))) + ((x47_23) * (x25_12))) + ((x15_7) * (x23_11))) + ((x49_24) * (x69_34))) + ((x19_9) * (x67_33))) + ((x51_25) * (x65_32))) := ⟨_, rfl⟩
  rw [← eM_41] at w
  refine lv_aload_n C.1 C.2.1 dX4_multiplyLimbs_647 rfl (lv_at hl 34 rfl) ?_
  refine lv_bipush (v := 7) C.1 C.2.1 dX4_multiplyLimbs_648 (by decide) ?_
  refine lv_lload_n C.1 C.2.1 dX4_multiplyLimbs_650 rfl (lv_at hl 33 rfl) ?_
  refine lv_lload C.1 C.2.1 dX4_multiplyLimbs_651 (lv_at hl 16 rfl) ?_
  refine lv_lmul C.1 C.2.1 dX4_multiplyLimbs_653 ?_
  refine lv_lload C.1 C.2.1 dX4_multiplyLimbs_654 (lv_at hl 32 rfl) ?_
  refine lv_lload C.1 C.2.1 dX4_multiplyLimbs_656 (lv_at hl 17 rfl) ?_
  refine lv_lmul C.1 C.2.1 dX4_multiplyLimbs_658 ?_
  refine lv_ladd C.1 C.2.1 dX4_multiplyLimbs_659 ?_
  refine lv_lload C.1 C.2.1 dX4_multiplyLimbs_660 (lv_at hl 31 rfl) ?_
  refine lv_lload C.1 C.2.1 dX4_multiplyLimbs_662 (lv_at hl 18 rfl) ?_
  refine lv_lmul C.1 C.2.1 dX4_multiplyLimbs_664 ?_
  refine lv_ladd C.1 C.2.1 dX4_multiplyLimbs_665 ?_
  refine lv_lload C.1 C.2.1 dX4_multiplyLimbs_666 (lv_at hl 30 rfl) ?_
  refine lv_lload C.1 C.2.1 dX4_multiplyLimbs_668 (lv_at hl 19 rfl) ?_
  refine lv_lmul C.1 C.2.1 dX4_multiplyLimbs_670 ?_
  refine lv_ladd C.1 C.2.1 dX4_multiplyLimbs_671 ?_
  refine lv_lload C.1 C.2.1 dX4_multiplyLimbs_672 (lv_at hl 29 rfl) ?_
  refine lv_lload C.1 C.2.1 dX4_multiplyLimbs_674 (lv_at hl 20 rfl) ?_
  refine lv_lmul C.1 C.2.1 dX4_multiplyLimbs_676 ?_
  refine lv_ladd C.1 C.2.1 dX4_multiplyLimbs_677 ?_
  refine lv_lload C.1 C.2.1 dX4_multiplyLimbs_678 (lv_at hl 28 rfl) ?_
  refine lv_lload C.1 C.2.1 dX4_multiplyLimbs_680 (lv_at hl 21 rfl) ?_
  refine lv_lmul C.1 C.2.1 dX4_multiplyLimbs_682 ?_
  refine lv_ladd C.1 C.2.1 dX4_multiplyLimbs_683 ?_
  refine lv_lload C.1 C.2.1 dX4_multiplyLimbs_684 (lv_at hl 27 rfl) ?_
  refine lv_lload C.1 C.2.1 dX4_multiplyLimbs_686 (lv_at hl 22 rfl) ?_
  refine lv_lmul C.1 C.2.1 dX4_multiplyLimbs_688 ?_
  refine lv_ladd C.1 C.2.1 dX4_multiplyLimbs_689 ?_
  refine lv_lload C.1 C.2.1 dX4_multiplyLimbs_690 (lv_at hl 26 rfl) ?_
  refine lv_lload C.1 C.2.1 dX4_multiplyLimbs_692 (lv_at hl 23 rfl) ?_
  refine lv_lmul C.1 C.2.1 dX4_multiplyLimbs_694 ?_
  refine lv_ladd C.1 C.2.1 dX4_multiplyLimbs_695 ?_
  refine lv_lload C.1 C.2.1 dX4_multiplyLimbs_696 (lv_at hl 25 rfl) ?_
  refine lv_lload C.1 C.2.1 dX4_multiplyLimbs_698 (lv_at hl 0 rfl) ?_
  refine lv_lmul C.1 C.2.1 dX4_multiplyLimbs_700 ?_
  refine lv_ladd C.1 C.2.1 dX4_multiplyLimbs_701 ?_
  refine lv_lload C.1 C.2.1 dX4_multiplyLimbs_702 (lv_at hl 24 rfl) ?_
  refine lv_lload C.1 C.2.1 dX4_multiplyLimbs_704 (lv_at hl 1 rfl) ?_
  refine lv_lmul C.1 C.2.1 dX4_multiplyLimbs_706 ?_
  refine lv_ladd C.1 C.2.1 dX4_multiplyLimbs_707 ?_
  refine m_last C w (k := k1) (i := 7) (n := n1) (x := (((((((((((x3_1) * (x37_18)) + ((x5_2) * (x35_17))) + ((x7_3) * (x33_16))) + ((x9_4) * (x31_15))) + ((x11_5) * (x29_14))) + ((x13_6) * (x27_13))) + ((x15_7) * (x25_12))) + ((x17_8) * (x23_11))) + ((x19_9) * (x69_34))) + ((x21_10) * (x67_33)))) hk1 hs1 (by omega) hn1 dX4_multiplyLimbs_708 (fun H locs w => ?_)
  obtain ⟨M_42, eM_42⟩ : ∃ zz, zz = mm_wl M_41 k1 7 (((((((((((x3_1) * (x37_18)) + ((x5_2) * (x35_17))) + ((x7_3) * (x33_16))) + ((x9_4) * (x31_15))) + ((x11_5) * (x29_14))) + ((x13_6) * (x27_13))) + ((x15_7) * (x25_12))) + ((x17_8) * (x23_11))) + ((x19_9) * (x69_34))) + ((x21_10) * (x67_33))) := ⟨_, rfl⟩
  rw [← eM_42] at w
  refine lv_aload_n C.1 C.2.1 dX4_multiplyLimbs_709 rfl (lv_at hl 34 rfl) ?_
  refine lv_bipush (v := 8) C.1 C.2.1 dX4_multiplyLimbs_710 (by decide) ?_
  refine lv_lload_n C.1 C.2.1 dX4_multiplyLimbs_712 rfl (lv_at hl 33 rfl) ?_
  refine lv_lload C.1 C.2.1 dX4_multiplyLimbs_713 (lv_at hl 15 rfl) ?_
  refine lv_lmul C.1 C.2.1 dX4_multiplyLimbs_715 ?_
  refine lv_lload C.1 C.2.1 dX4_multiplyLimbs_716 (lv_at hl 13 rfl) ?_
  refine lv_lload C.1 C.2.1 dX4_multiplyLimbs_718 (lv_at hl 16 rfl) ?_
  refine lv_lmul C.1 C.2.1 dX4_multiplyLimbs_720 ?_
  refine lv_ladd C.1 C.2.1 dX4_multiplyLimbs_721 ?_
  refine lv_lload C.1 C.2.1 dX4_multiplyLimbs_722 (lv_at hl 31 rfl) ?_
  refine lv_lload C.1 C.2.1 dX4_multiplyLimbs_724 (lv_at hl 17 rfl) ?_
  refine lv_lmul C.1 C.2.1 dX4_multiplyLimbs_726 ?_
  refine lv_ladd C.1 C.2.1 dX4_multiplyLimbs_727 ?_
  refine lv_lload C.1 C.2.1 dX4_multiplyLimbs_728 (lv_at hl 12 rfl) ?_
  refine lv_lload C.1 C.2.1 dX4_multiplyLimbs_730 (lv_at hl 18 rfl) ?_
  refine lv_lmul C.1 C.2.1 dX4_multiplyLimbs_732 ?_
  refine lv_ladd C.1 C.2.1 dX4_multiplyLimbs_733 ?_
  refine lv_lload C.1 C.2.1 dX4_multiplyLimbs_734 (lv_at hl 29 rfl) ?_
  refine lv_lload C.1 C.2.1 dX4_multiplyLimbs_736 (lv_at hl 19 rfl) ?_
  refine lv_lmul C.1 C.2.1 dX4_multiplyLimbs_738 ?_
  refine lv_ladd C.1 C.2.1 dX4_multiplyLimbs_739 ?_
  refine lv_lload C.1 C.2.1 dX4_multiplyLimbs_740 (lv_at hl 11 rfl) ?_
  refine lv_lload C.1 C.2.1 dX4_multiplyLimbs_742 (lv_at hl 20 rfl) ?_
  refine lv_lmul C.1 C.2.1 dX4_multiplyLimbs_744 ?_
  refine lv_ladd C.1 C.2.1 dX4_multiplyLimbs_745 ?_
  refine lv_lload C.1 C.2.1 dX4_multiplyLimbs_746 (lv_at hl 27 rfl) ?_
  refine lv_lload C.1 C.2.1 dX4_multiplyLimbs_748 (lv_at hl 21 rfl) ?_
  refine lv_lmul C.1 C.2.1 dX4_multiplyLimbs_750 ?_
  refine lv_ladd C.1 C.2.1 dX4_multiplyLimbs_751 ?_
  refine lv_lload C.1 C.2.1 dX4_multiplyLimbs_752 (lv_at hl 10 rfl) ?_
  refine lv_lload C.1 C.2.1 dX4_multiplyLimbs_754 (lv_at hl 22 rfl) ?_
  refine lv_lmul C.1 C.2.1 dX4_multiplyLimbs_756 ?_
  refine lv_ladd C.1 C.2.1 dX4_multiplyLimbs_757 ?_
  refine lv_lload C.1 C.2.1 dX4_multiplyLimbs_758 (lv_at hl 25 rfl) ?_
  refine lv_lload C.1 C.2.1 dX4_multiplyLimbs_760 (lv_at hl 23 rfl) ?_
  refine lv_lmul C.1 C.2.1 dX4_multiplyLimbs_762 ?_
  refine lv_ladd C.1 C.2.1 dX4_multiplyLimbs_763 ?_
  refine lv_lload C.1 C.2.1 dX4_multiplyLimbs_764 (lv_at hl 9 rfl) ?_
  refine lv_lload C.1 C.2.1 dX4_multiplyLimbs_766 (lv_at hl 0 rfl) ?_
  refine lv_lmul C.1 C.2.1 dX4_multiplyLimbs_768 ?_
  refine lv_ladd C.1 C.2.1 dX4_multiplyLimbs_769 ?_
  refine m_last C w (k := k1) (i := 8) (n := n1) (x := (((((((((((x3_1) * (x39_19)) + ((x43_21) * (x37_18))) + ((x7_3) * (x35_17))) + ((x45_22) * (x33_16))) + ((x11_5) * (x31_15))) + ((x47_23) * (x29_14))) + ((x15_7) * (x27_13))) + ((x49_24) * (x25_12))) + ((x19_9) * (x23_11))) + ((x51_25) * (x69_34)))) hk1 hs1 (by omega) hn1 dX4_multiplyLimbs_770 (fun H locs w => ?_)
  obtain ⟨M_43, eM_43⟩ : ∃ zz, zz = mm_wl M_42 k1 8 (((((((((((x3_1) * (x39_19)) + ((x43_21) * (x37_18))) + ((x7_3) * (x35_17))) + ((x45_22) * (x33_16))) + ((x11_5) * (x31_15))) + ((x47_23) * (x29_14))) + ((x15_7) * (x27_13))) + ((x49_24) * (x25_12))) + ((x19_9) * (x23_11))) + ((x51_25) * (x69_34))) := ⟨_, rfl⟩
  rw [← eM_43] at w
  refine lv_aload_n C.1 C.2.1 dX4_multiplyLimbs_771 rfl (lv_at hl 34 rfl) ?_
  refine lv_bipush (v := 9) C.1 C.2.1 dX4_multiplyLimbs_772 (by decide) ?_
  refine lv_lload_n C.1 C.2.1 dX4_multiplyLimbs_774 rfl (lv_at hl 33 rfl) ?_
  refine lv_lload C.1 C.2.1 dX4_multiplyLimbs_775 (lv_at hl 14 rfl) ?_
  refine lv_lmul C.1 C.2.1 dX4_multiplyLimbs_777 ?_
  refine lv_lload C.1 C.2.1 dX4_multiplyLimbs_778 (lv_at hl 32 rfl) ?_
  refine lv_lload C.1 C.2.1 dX4_multiplyLimbs_780 (lv_at hl 15 rfl) ?_
  refine lv_lmul C.1 C.2.1 dX4_multiplyLimbs_782 ?_
  refine lv_ladd C.1 C.2.1 dX4_multiplyLimbs_783 ?_
  refine lv_lload C.1 C.2.1 dX4_multiplyLimbs_784 (lv_at hl 31 rfl) ?_
  refine lv_lload C.1 C.2.1 dX4_multiplyLimbs_786 (lv_at hl 16 rfl) ?_
  refine lv_lmul C.1 C.2.1 dX4_multiplyLimbs_788 ?_
  refine lv_ladd C.1 C.2.1 dX4_multiplyLimbs_789 ?_
  refine lv_lload C.1 C.2.1 dX4_multiplyLimbs_790 (lv_at hl 30 rfl) ?_
  refine lv_lload C.1 C.2.1 dX4_multiplyLimbs_792 (lv_at hl 17 rfl) ?_
  refine lv_lmul C.1 C.2.1 dX4_multiplyLimbs_794 ?_
  refine lv_ladd C.1 C.2.1 dX4_multiplyLimbs_795 ?_
  refine lv_lload C.1 C.2.1 dX4_multiplyLimbs_796 (lv_at hl 29 rfl) ?_
  refine lv_lload C.1 C.2.1 dX4_multiplyLimbs_798 (lv_at hl 18 rfl) ?_
  refine lv_lmul C.1 C.2.1 dX4_multiplyLimbs_800 ?_
  refine lv_ladd C.1 C.2.1 dX4_multiplyLimbs_801 ?_
  refine lv_lload C.1 C.2.1 dX4_multiplyLimbs_802 (lv_at hl 28 rfl) ?_
  refine lv_lload C.1 C.2.1 dX4_multiplyLimbs_804 (lv_at hl 19 rfl) ?_
  refine lv_lmul C.1 C.2.1 dX4_multiplyLimbs_806 ?_
  refine lv_ladd C.1 C.2.1 dX4_multiplyLimbs_807 ?_
  refine lv_lload C.1 C.2.1 dX4_multiplyLimbs_808 (lv_at hl 27 rfl) ?_
  refine lv_lload C.1 C.2.1 dX4_multiplyLimbs_810 (lv_at hl 20 rfl) ?_
  refine lv_lmul C.1 C.2.1 dX4_multiplyLimbs_812 ?_
  refine lv_ladd C.1 C.2.1 dX4_multiplyLimbs_813 ?_
  refine lv_lload C.1 C.2.1 dX4_multiplyLimbs_814 (lv_at hl 26 rfl) ?_
  refine lv_lload C.1 C.2.1 dX4_multiplyLimbs_816 (lv_at hl 21 rfl) ?_
  refine lv_lmul C.1 C.2.1 dX4_multiplyLimbs_818 ?_
  refine lv_ladd C.1 C.2.1 dX4_multiplyLimbs_819 ?_
  refine lv_lload C.1 C.2.1 dX4_multiplyLimbs_820 (lv_at hl 25 rfl) ?_
  refine lv_lload C.1 C.2.1 dX4_multiplyLimbs_822 (lv_at hl 22 rfl) ?_
  refine lv_lmul C.1 C.2.1 dX4_multiplyLimbs_824 ?_
  refine lv_ladd C.1 C.2.1 dX4_multiplyLimbs_825 ?_
  refine lv_lload C.1 C.2.1 dX4_multiplyLimbs_826 (lv_at hl 24 rfl) ?_
  refine lv_lload C.1 C.2.1 dX4_multiplyLimbs_828 (lv_at hl 23 rfl) ?_
  refine lv_lmul C.1 C.2.1 dX4_multiplyLimbs_830 ?_
  refine lv_ladd C.1 C.2.1 dX4_multiplyLimbs_831 ?_
  refine m_last C w (k := k1) (i := 9) (n := n1) (x := (((((((((((x3_1) * (x41_20)) + ((x5_2) * (x39_19))) + ((x7_3) * (x37_18))) + ((x9_4) * (x35_17))) + ((x11_5) * (x33_16))) + ((x13_6) * (x31_15))) + ((x15_7) * (x29_14))) + ((x17_8) * (x27_13))) + ((x19_9) * (x25_12))) + ((x21_10) * (x23_11)))) hk1 hs1 (by omega) hn1 dX4_multiplyLimbs_832 (fun H locs w => ?_)
  obtain ⟨M_44, eM_44⟩ : ∃ zz, zz = mm_wl M_43 k1 9 (((((((((((x3_1) * (x41_20)) + ((x5_2) * (x39_19))) + ((x7_3) * (x37_18))) + ((x9_4) * (x35_17))) + ((x11_5) * (x33_16))) + ((x13_6) * (x31_15))) + ((x15_7) * (x29_14))) + ((x17_8) * (x27_13))) + ((x19_9) * (x25_12))) + ((x21_10) * (x23_11))) := ⟨_, rfl⟩
  rw [← eM_44] at w
  refine lv_aload_n C.1 C.2.1 dX4_multiplyLimbs_833 rfl (lv_at hl 34 rfl) ?_
  refine m_csv C w hl csX4_112 (As := [.ref (r (k1))]) (rest := []) (c_X4_carry l D b0 r M_44 k1 hk1 hs1 hn1 (by omega)) rfl rfl (Nat.le_of_ble_eq_true rfl) ⟨Nat.le_of_ble_eq_true rfl, Nat.le_of_ble_eq_true rfl⟩ ⟨Nat.zero_le _, Nat.zero_le _⟩ dX4_multiplyLimbs_834 (fun M_45 H locs eM_45 w => ?_)
  exact m_vret C w (by subst ex3_1 ex5_2 ex7_3 ex9_4 ex11_5 ex13_6 ex15_7 ex17_8 ex19_9 ex21_10 ex23_11 ex25_12 ex27_13 ex29_14 ex31_15 ex33_16 ex35_17 ex37_18 ex39_19 ex41_20 ex43_21 ex45_22 ex47_23 ex49_24 ex51_25 ex53_26 ex55_27 ex57_28 ex59_29 ex61_30 ex63_31 ex65_32 ex67_33 ex69_34 eM_35 eM_36 eM_37 eM_38 eM_39 eM_40 eM_41 eM_42 eM_43 eM_44 eM_45; exact Eq.symm (rfl)) dX4_multiplyLimbs_837
