def f_X2_begin_L35 (k1 : Nat) (σ : mm_M) : Nat → mm_M
  | 0 => σ
  | t + 1 =>
  let M_11 := f_X2_begin_L35 k1 σ t
  let M_14 := mm_w M_11 34 (4 + t) (f_X1_loadLittle k1 (4 * t) M_11)
  M_14
theorem w_f_X2_begin_L35 (k1 : Nat) (σ : mm_M) : ∀ t : Nat, mm_fr [34] σ (f_X2_begin_L35 k1 σ t)
  | 0 => mm_fr_refl _ _
  | t + 1 => have ih := w_f_X2_begin_L35 k1 σ t
    (mm_fr_w (by simp) ih)
def f_X2_begin (k1 : Nat) (v1 : Int64) (M : mm_M) : mm_M :=
  let M_1 := mm_w M 34 0 (1634760805 : Int32)
  let M_2 := mm_w M_1 34 1 (857760878 : Int32)
  let M_3 := mm_w M_2 34 2 (2036477234 : Int32)
  let M_4 := mm_w M_3 34 3 (1797285236 : Int32)
  let M_5 := f_X2_begin_L35 k1 M_4 8
  let M_7 := mm_w M_5 34 12 (0 : Int32)
  let M_8 := mm_w M_7 34 13 (0 : Int32)
  let M_9 := mm_w M_8 34 14 (((v1) : Int64).toInt32)
  let M_10 := mm_w M_9 34 15 (((mm_ul (v1) (32 : Int32)) : Int64).toInt32)
  M_10
theorem w_f_X2_begin (k1 : Nat) (v1 : Int64) (M : mm_M) : mm_fr [34] M (f_X2_begin k1 v1 M) := by
  unfold f_X2_begin
  exact (mm_fr_w (by simp) (mm_fr_w (by simp) (mm_fr_w (by simp) (mm_fr_w (by simp) ((w_f_X2_begin_L35 _ _ 8).on (by simp) (mm_fr_w (by simp) (mm_fr_w (by simp) (mm_fr_w (by simp) (mm_fr_w (by simp) (mm_fr_refl _ _))))))))))
set_option maxHeartbeats 4000000 in
set_option maxRecDepth 100000 in
theorem c_X2_begin (l : Launch) (D : va_G) (b0 : Nat) (r : Nat → Nat) (M : mm_M) (k1 : Nat) (v1 : Int64) {n1 : Nat} {w1 : Bool} (hk1 : k1 < 181) (hs1 : mm_sh k1 = .inl (.byte, n1, w1)) (hn1 : n1 < 2 ^ 31) (hp1 : 32 ≤ n1) : mm_Mv l yX2_begin cX2_begin 5 1 21 D b0 r [.ref (r (32)), .ref (r (k1)), .long (v1)] M (fun M' => M' = f_X2_begin k1 v1 M) := by
  refine mm_enter (cc := cX2_begin) (nL := 5) (ret := none) (by decide) (Nat.le_of_ble_eq_true rfl) ?_
  intro p e s m args below meth c C w ls hl
  have hl : lv_has ls 5 [(0, .ref (r (32))), (1, .ref (r (k1))), (2, .long (v1))] := hl
  refine lv_aload_n C.1 C.2.1 dX2_begin_0 rfl (lv_at hl 0 rfl) ?_
  refine m_get C w (k := 32) (j := 1) (v := .ref (r (34))) flX2_13 (by decide) rfl rfl dX2_begin_1 ?_
  refine lv_iconst (v := 0) C.1 C.2.1 dX2_begin_4 (by decide) ?_
  refine lv_ldc (v := (1634760805)) C.1 C.2.1 C.2.2.2.1 (C.2.2.2.2.1 _ kkX2_20) dX2_begin_5 ?_
  refine m_iast C w (k := 34) (i := 0) (n := 16) (x := (1634760805 : Int32)) (by decide) rfl (by omega) (by decide) dX2_begin_7 (fun H locs w => ?_)
  obtain ⟨M_1, eM_1⟩ : ∃ zz, zz = mm_w M 34 0 (1634760805 : Int32) := ⟨_, rfl⟩
  rw [← eM_1] at w
  refine lv_aload_n C.1 C.2.1 dX2_begin_8 rfl (lv_at hl 0 rfl) ?_
  refine m_get C w (k := 32) (j := 1) (v := .ref (r (34))) flX2_13 (by decide) rfl rfl dX2_begin_9 ?_
  refine lv_iconst (v := 1) C.1 C.2.1 dX2_begin_12 (by decide) ?_
  refine lv_ldc (v := (857760878)) C.1 C.2.1 C.2.2.2.1 (C.2.2.2.2.1 _ kkX2_21) dX2_begin_13 ?_
  refine m_iast C w (k := 34) (i := 1) (n := 16) (x := (857760878 : Int32)) (by decide) rfl (by omega) (by decide) dX2_begin_15 (fun H locs w => ?_)
  obtain ⟨M_2, eM_2⟩ : ∃ zz, zz = mm_w M_1 34 1 (857760878 : Int32) := ⟨_, rfl⟩
  rw [← eM_2] at w
  refine lv_aload_n C.1 C.2.1 dX2_begin_16 rfl (lv_at hl 0 rfl) ?_
  refine m_get C w (k := 32) (j := 1) (v := .ref (r (34))) flX2_13 (by decide) rfl rfl dX2_begin_17 ?_
  refine lv_iconst (v := 2) C.1 C.2.1 dX2_begin_20 (by decide) ?_
  refine lv_ldc (v := (2036477234)) C.1 C.2.1 C.2.2.2.1 (C.2.2.2.2.1 _ kkX2_22) dX2_begin_21 ?_
  refine m_iast C w (k := 34) (i := 2) (n := 16) (x := (2036477234 : Int32)) (by decide) rfl (by omega) (by decide) dX2_begin_23 (fun H locs w => ?_)
  obtain ⟨M_3, eM_3⟩ : ∃ zz, zz = mm_w M_2 34 2 (2036477234 : Int32) := ⟨_, rfl⟩
  rw [← eM_3] at w
  refine lv_aload_n C.1 C.2.1 dX2_begin_24 rfl (lv_at hl 0 rfl) ?_
  refine m_get C w (k := 32) (j := 1) (v := .ref (r (34))) flX2_13 (by decide) rfl rfl dX2_begin_25 ?_
  refine lv_iconst (v := 3) C.1 C.2.1 dX2_begin_28 (by decide) ?_
  refine lv_ldc (v := (1797285236)) C.1 C.2.1 C.2.2.2.1 (C.2.2.2.2.1 _ kkX2_23) dX2_begin_29 ?_
  refine m_iast C w (k := 34) (i := 3) (n := 16) (x := (1797285236 : Int32)) (by decide) rfl (by omega) (by decide) dX2_begin_31 (fun H locs w => ?_)
  obtain ⟨M_4, eM_4⟩ : ∃ zz, zz = mm_w M_3 34 3 (1797285236 : Int32) := ⟨_, rfl⟩
  rw [← eM_4] at w
  refine lv_iconst (v := 0) C.1 C.2.1 dX2_begin_32 (by decide) ?_
  refine lv_istore (lv' := [(4, .int 0), (0, .ref (r (32))), (1, .ref (r (k1))), (2, .long (v1))]) C.1 C.2.1 dX2_begin_33 hl (by decide) rfl (fun ls hl => ?_)
  have loop : ∀ (k t : Nat), t + k = 8 → ∀ (H : Heap) (locs : List Loc) (ls : Array Slot), mm_W D b0 r (f_X2_begin_L35 k1 M_4 t) s H locs → lv_has ls 5 [(4, .int (nI (t))), (0, .ref (r (32))), (1, .ref (r (k1))), (2, .long (v1))] → W p l e (mm_rm 1 21) s m args below meth c H locs 0 0 (MQ below (va_Qv (fun M' => M' = f_X2_begin k1 v1 M) (mm_U D b0 r) (fun q => b0 ≤ q)) args s 0 0 (fun q => b0 ≤ q)) (F0 m 35 ls []) := by
    intro k
    induction k with
    | zero =>
      intro t ht H locs ls w hl
      obtain rfl : 8 = t := by omega
      obtain ⟨M_5, eM_5⟩ : ∃ zz, zz = f_X2_begin_L35 k1 M_4 8 := ⟨_, rfl⟩
      rw [← eM_5] at w
      refine lv_iload C.1 C.2.1 dX2_begin_35 (lv_at hl 0 rfl) ?_
      refine lv_bipush (v := 8) C.1 C.2.1 dX2_begin_37 (by decide) ?_
      refine m_icmp_ge (tgt := 65) (a := 8) (b := 8) C (by omega) (by omega) dX2_begin_39 (by decide) (fun _ => ?_) (fun h_6 => absurd h_6 (by omega))
      refine lv_aload_n C.1 C.2.1 dX2_begin_65 rfl (lv_at hl 1 rfl) ?_
      refine m_get C w (k := 32) (j := 1) (v := .ref (r (34))) flX2_13 (by decide) rfl rfl dX2_begin_66 ?_
      refine lv_bipush (v := 12) C.1 C.2.1 dX2_begin_69 (by decide) ?_
      refine lv_iconst (v := 0) C.1 C.2.1 dX2_begin_71 (by decide) ?_
      refine m_iast C w (k := 34) (i := 12) (n := 16) (x := (0 : Int32)) (by decide) rfl (by omega) (by decide) dX2_begin_72 (fun H locs w => ?_)
      obtain ⟨M_7, eM_7⟩ : ∃ zz, zz = mm_w M_5 34 12 (0 : Int32) := ⟨_, rfl⟩
      rw [← eM_7] at w
      refine lv_aload_n C.1 C.2.1 dX2_begin_73 rfl (lv_at hl 1 rfl) ?_
      refine m_get C w (k := 32) (j := 1) (v := .ref (r (34))) flX2_13 (by decide) rfl rfl dX2_begin_74 ?_
      refine lv_bipush (v := 13) C.1 C.2.1 dX2_begin_77 (by decide) ?_
      refine lv_iconst (v := 0) C.1 C.2.1 dX2_begin_79 (by decide) ?_
      refine m_iast C w (k := 34) (i := 13) (n := 16) (x := (0 : Int32)) (by decide) rfl (by omega) (by decide) dX2_begin_80 (fun H locs w => ?_)
      obtain ⟨M_8, eM_8⟩ : ∃ zz, zz = mm_w M_7 34 13 (0 : Int32) := ⟨_, rfl⟩
      rw [← eM_8] at w
      refine lv_aload_n C.1 C.2.1 dX2_begin_81 rfl (lv_at hl 1 rfl) ?_
      refine m_get C w (k := 32) (j := 1) (v := .ref (r (34))) flX2_13 (by decide) rfl rfl dX2_begin_82 ?_
      refine lv_bipush (v := 14) C.1 C.2.1 dX2_begin_85 (by decide) ?_
      refine lv_lload_n C.1 C.2.1 dX2_begin_87 rfl (lv_at hl 3 rfl) ?_
      refine lv_l2i (v := ((v1) : Int64).toInt32) C.1 C.2.1 dX2_begin_88 rfl ?_
      refine m_iast C w (k := 34) (i := 14) (n := 16) (x := (((v1) : Int64).toInt32)) (by decide) rfl (by omega) (by decide) dX2_begin_89 (fun H locs w => ?_)
      obtain ⟨M_9, eM_9⟩ : ∃ zz, zz = mm_w M_8 34 14 (((v1) : Int64).toInt32) := ⟨_, rfl⟩
      rw [← eM_9] at w
      refine lv_aload_n C.1 C.2.1 dX2_begin_90 rfl (lv_at hl 1 rfl) ?_
      refine m_get C w (k := 32) (j := 1) (v := .ref (r (34))) flX2_13 (by decide) rfl rfl dX2_begin_91 ?_
      refine lv_bipush (v := 15) C.1 C.2.1 dX2_begin_94 (by decide) ?_
      refine lv_lload_n C.1 C.2.1 dX2_begin_96 rfl (lv_at hl 3 rfl) ?_
      refine lv_bipush (v := 32) C.1 C.2.1 dX2_begin_97 (by decide) ?_
      refine lv_lushr (v := mm_ul (v1) (32 : Int32)) C.1 C.2.1 dX2_begin_99 rfl ?_
      refine lv_l2i (v := ((mm_ul (v1) (32 : Int32)) : Int64).toInt32) C.1 C.2.1 dX2_begin_100 rfl ?_
      refine m_iast C w (k := 34) (i := 15) (n := 16) (x := (((mm_ul (v1) (32 : Int32)) : Int64).toInt32)) (by decide) rfl (by omega) (by decide) dX2_begin_101 (fun H locs w => ?_)
      obtain ⟨M_10, eM_10⟩ : ∃ zz, zz = mm_w M_9 34 15 (((mm_ul (v1) (32 : Int32)) : Int64).toInt32) := ⟨_, rfl⟩
      rw [← eM_10] at w
      exact m_vret C w (by subst eM_1 eM_2 eM_3 eM_4 eM_5 eM_7 eM_8 eM_9 eM_10; exact Eq.symm (rfl)) dX2_begin_102
    | succ k ih =>
      intro t ht H locs ls w hl
      obtain ⟨M_11, eM_11⟩ : ∃ zz, zz = f_X2_begin_L35 k1 M_4 t := ⟨_, rfl⟩
      rw [← eM_11] at w
      refine lv_iload C.1 C.2.1 dX2_begin_35 (lv_at hl 0 rfl) ?_
      refine lv_bipush (v := 8) C.1 C.2.1 dX2_begin_37 (by decide) ?_
      refine m_icmp_ge (tgt := 65) (a := t) (b := 8) C (by omega) (by omega) dX2_begin_39 (by decide) (fun h_12 => absurd h_12 (by omega)) (fun _ => ?_)
      refine lv_aload_n C.1 C.2.1 dX2_begin_42 rfl (lv_at hl 1 rfl) ?_
      refine m_get C w (k := 32) (j := 1) (v := .ref (r (34))) flX2_13 (by decide) rfl rfl dX2_begin_43 ?_
      refine lv_iconst (v := 4) C.1 C.2.1 dX2_begin_46 (by decide) ?_
      refine lv_iload C.1 C.2.1 dX2_begin_47 (lv_at hl 0 rfl) ?_
      refine lv_iadd C.1 C.2.1 dX2_begin_49 ?_
      refine m_i (y := nI (4 + t)) (nI_add 4 t) ?_
      refine lv_aload_n C.1 C.2.1 dX2_begin_50 rfl (lv_at hl 2 rfl) ?_
      refine lv_iconst (v := 4) C.1 C.2.1 dX2_begin_51 (by decide) ?_
      refine lv_iload C.1 C.2.1 dX2_begin_52 (lv_at hl 0 rfl) ?_
      refine lv_imul C.1 C.2.1 dX2_begin_54 ?_
      refine m_i (y := nI (4 * t)) (pk_mul 4 t) ?_
      refine m_csi C w hl csX2_24 (As := [.ref (r (k1)), .int (nI (4 * t))]) (rest := [.int (nI (4 + t)), .ref (r (34))]) (c_X1_loadLittle l D b0 r M_11 k1 (4 * t) hk1 hs1 hn1 (by omega)) rfl rfl (Nat.le_of_ble_eq_true rfl) ⟨Nat.le_of_ble_eq_true rfl, Nat.le_of_ble_eq_true rfl⟩ ⟨Nat.zero_le _, Nat.zero_le _⟩ dX2_begin_55 (fun v_13 M9 H locs e9 w => ?_)
      obtain ⟨ev_13, e9⟩ := e9
      rw [e9] at w
      subst ev_13
      refine m_iast C w (k := 34) (i := 4 + t) (n := 16) (x := (f_X1_loadLittle k1 (4 * t) M_11)) (by decide) rfl (by omega) (by decide) dX2_begin_58 (fun H locs w => ?_)
      obtain ⟨M_14, eM_14⟩ : ∃ zz, zz = mm_w M_11 34 (4 + t) (f_X1_loadLittle k1 (4 * t) M_11) := ⟨_, rfl⟩
      rw [← eM_14] at w
      refine lv_iinc (v := (nI (t + 1))) (lv' := [(4, .int (nI (t + 1))), (0, .ref (r (32))), (1, .ref (r (k1))), (2, .long (v1))]) C.1 C.2.1 dX2_begin_59 hl (k := 0) rfl (nI_add t 1) (by decide) rfl (fun ls hl => ?_)
      refine lv_goto (tgt := 35) C.1 C.2.1 dX2_begin_62 (by decide) ?_
      have h9 : lv_has ls 5 [(4, .int (nI (t + 1))), (0, .ref (r (32))), (1, .ref (r (k1))), (2, .long (v1))] := lv_sub hl [0, 1, 2, 3] rfl
      have hlZ : lv_has ls 5 [(4, .int (nI (t + 1))), (0, .ref (r (32))), (1, .ref (r (k1))), (2, .long (v1))] := h9
      have wZ := w
      subst eM_11 eM_14
      refine ih (t + 1) (by omega) _ _ _ (wZ) ?_
      exact hlZ
  exact loop 8 0 (by omega) _ _ ls w hl

def f_X2_quarterRounds_L2 (p1 : Nat) (σ : mm_M) : Nat → mm_M
  | 0 => σ
  | t + 1 =>
  let M_3 := f_X2_quarterRounds_L2 p1 σ t
  let x6_5 := (M_3.1 35 t) + (M_3.1 35 (4 + ((t + p1) % 4)))
  let x7_6 := (M_3.1 35 (12 + ((t + (3 * p1)) % 4))) ^^^ (x6_5)
  let x7_7 := ((x7_6) <<< ((16 : Int32) &&& 31)) ||| (mm_us (x7_6) (16 : Int32))
  let x8_8 := (M_3.1 35 (8 + ((t + (2 * p1)) % 4))) + (x7_7)
  let x9_9 := (M_3.1 35 (4 + ((t + p1) % 4))) ^^^ (x8_8)
  let x9_10 := ((x9_9) <<< ((12 : Int32) &&& 31)) ||| (mm_us (x9_9) (20 : Int32))
  let x6_11 := (x6_5) + (x9_10)
  let x7_12 := (x7_7) ^^^ (x6_11)
  let x7_13 := ((x7_12) <<< ((8 : Int32) &&& 31)) ||| (mm_us (x7_12) (24 : Int32))
  let x8_14 := (x8_8) + (x7_13)
  let x9_15 := (x9_10) ^^^ (x8_14)
  let x9_16 := ((x9_15) <<< ((7 : Int32) &&& 31)) ||| (mm_us (x9_15) (25 : Int32))
  let M_17 := mm_w M_3 35 t (x6_11)
  let M_18 := mm_w M_17 35 (4 + ((t + p1) % 4)) (x9_16)
  let M_19 := mm_w M_18 35 (8 + ((t + (2 * p1)) % 4)) (x8_14)
  let M_20 := mm_w M_19 35 (12 + ((t + (3 * p1)) % 4)) (x7_13)
  M_20
theorem w_f_X2_quarterRounds_L2 (p1 : Nat) (σ : mm_M) : ∀ t : Nat, mm_fr [35] σ (f_X2_quarterRounds_L2 p1 σ t)
  | 0 => mm_fr_refl _ _
  | t + 1 => have ih := w_f_X2_quarterRounds_L2 p1 σ t
    (mm_fr_w (by simp) (mm_fr_w (by simp) (mm_fr_w (by simp) (mm_fr_w (by simp) ih))))
def f_X2_quarterRounds (p1 : Nat) (M : mm_M) : mm_M :=
  let M_1 := f_X2_quarterRounds_L2 p1 M 4
  M_1
theorem w_f_X2_quarterRounds (p1 : Nat) (M : mm_M) : mm_fr [35] M (f_X2_quarterRounds p1 M) := by
  unfold f_X2_quarterRounds
  exact ((w_f_X2_quarterRounds_L2 _ _ 4).on (by simp) (mm_fr_refl _ _))
set_option maxHeartbeats 4000000 in
set_option maxRecDepth 100000 in
theorem c_X2_quarterRounds (l : Launch) (D : va_G) (b0 : Nat) (r : Nat → Nat) (M : mm_M) (p1 : Nat) (hp1 : p1 < 2) : mm_Mv l yX2_quarterRounds cX2_quarterRounds 10 0 0 D b0 r [.ref (r (32)), .int (nI (p1))] M (fun M' => M' = f_X2_quarterRounds p1 M) := by
  refine mm_enter (cc := cX2_quarterRounds) (nL := 10) (ret := none) (by decide) (Nat.le_of_ble_eq_true rfl) ?_
  intro p e s m args below meth c C w ls hl
  have hl : lv_has ls 10 [(0, .ref (r (32))), (1, .int (nI (p1)))] := hl
  refine lv_iconst (v := 0) C.1 C.2.1 dX2_quarterRounds_0 (by decide) ?_
  refine lv_istore_n (lv' := [(2, .int 0), (0, .ref (r (32))), (1, .int (nI (p1)))]) C.1 C.2.1 dX2_quarterRounds_1 rfl hl (by decide) rfl (fun ls hl => ?_)
  have loop : ∀ (k t : Nat), t + k = 4 → ∀ (H : Heap) (locs : List Loc) (ls : Array Slot), mm_W D b0 r (f_X2_quarterRounds_L2 p1 M t) s H locs → lv_has ls 10 [(2, .int (nI (t))), (0, .ref (r (32))), (1, .int (nI (p1)))] → W p l e (mm_rm 0 0) s m args below meth c H locs 0 0 (MQ below (va_Qv (fun M' => M' = f_X2_quarterRounds p1 M) (mm_U D b0 r) (fun q => b0 ≤ q)) args s 0 0 (fun q => b0 ≤ q)) (F0 m 2 ls []) := by
    intro k
    induction k with
    | zero =>
      intro t ht H locs ls w hl
      obtain rfl : 4 = t := by omega
      obtain ⟨M_1, eM_1⟩ : ∃ zz, zz = f_X2_quarterRounds_L2 p1 M 4 := ⟨_, rfl⟩
      rw [← eM_1] at w
      refine lv_iload_n C.1 C.2.1 dX2_quarterRounds_2 rfl (lv_at hl 0 rfl) ?_
      refine lv_iconst (v := 4) C.1 C.2.1 dX2_quarterRounds_3 (by decide) ?_
      refine m_icmp_ge (tgt := 209) (a := 4) (b := 4) C (by omega) (by omega) dX2_quarterRounds_4 (by decide) (fun _ => ?_) (fun h_2 => absurd h_2 (by omega))
      exact m_vret C w (by subst eM_1; exact Eq.symm (rfl)) dX2_quarterRounds_209
    | succ k ih =>
      intro t ht H locs ls w hl
      obtain ⟨M_3, eM_3⟩ : ∃ zz, zz = f_X2_quarterRounds_L2 p1 M t := ⟨_, rfl⟩
      rw [← eM_3] at w
      refine lv_iload_n C.1 C.2.1 dX2_quarterRounds_2 rfl (lv_at hl 0 rfl) ?_
      refine lv_iconst (v := 4) C.1 C.2.1 dX2_quarterRounds_3 (by decide) ?_
      refine m_icmp_ge (tgt := 209) (a := t) (b := 4) C (by omega) (by omega) dX2_quarterRounds_4 (by decide) (fun h_4 => absurd h_4 (by omega)) (fun _ => ?_)
      refine lv_iconst (v := 4) C.1 C.2.1 dX2_quarterRounds_7 (by decide) ?_
      refine lv_iload_n C.1 C.2.1 dX2_quarterRounds_8 rfl (lv_at hl 0 rfl) ?_
      refine lv_iload_n C.1 C.2.1 dX2_quarterRounds_9 rfl (lv_at hl 2 rfl) ?_
      refine lv_iadd C.1 C.2.1 dX2_quarterRounds_10 ?_
      refine m_i (y := nI (t + p1)) (nI_add t p1) ?_
      refine lv_iconst (v := 3) C.1 C.2.1 dX2_quarterRounds_11 (by decide) ?_
      refine lv_iand C.1 C.2.1 dX2_quarterRounds_12 ?_
      refine m_i (y := nI ((t + p1) % 4)) (pk_andN (n := t + p1) (by omega) 2 (by decide)) ?_
      refine lv_iadd C.1 C.2.1 dX2_quarterRounds_13 ?_
      refine m_i (y := nI (4 + ((t + p1) % 4))) (nI_add 4 ((t + p1) % 4)) ?_
      refine lv_istore_n (lv' := [(3, .int (nI (4 + ((t + p1) % 4)))), (2, .int (nI (t))), (0, .ref (r (32))), (1, .int (nI (p1)))]) C.1 C.2.1 dX2_quarterRounds_14 rfl hl (by decide) rfl (fun ls hl => ?_)
      refine lv_bipush (v := 8) C.1 C.2.1 dX2_quarterRounds_15 (by decide) ?_
      refine lv_iload_n C.1 C.2.1 dX2_quarterRounds_17 rfl (lv_at hl 1 rfl) ?_
      refine lv_iconst (v := 2) C.1 C.2.1 dX2_quarterRounds_18 (by decide) ?_
      refine lv_iload_n C.1 C.2.1 dX2_quarterRounds_19 rfl (lv_at hl 3 rfl) ?_
      refine lv_imul C.1 C.2.1 dX2_quarterRounds_20 ?_
      refine m_i (y := nI (2 * p1)) (pk_mul 2 p1) ?_
      refine lv_iadd C.1 C.2.1 dX2_quarterRounds_21 ?_
      refine m_i (y := nI (t + (2 * p1))) (nI_add t (2 * p1)) ?_
      refine lv_iconst (v := 3) C.1 C.2.1 dX2_quarterRounds_22 (by decide) ?_
      refine lv_iand C.1 C.2.1 dX2_quarterRounds_23 ?_
      refine m_i (y := nI ((t + (2 * p1)) % 4)) (pk_andN (n := t + (2 * p1)) (by omega) 2 (by decide)) ?_
      refine lv_iadd C.1 C.2.1 dX2_quarterRounds_24 ?_
      refine m_i (y := nI (8 + ((t + (2 * p1)) % 4))) (nI_add 8 ((t + (2 * p1)) % 4)) ?_
      refine lv_istore (lv' := [(4, .int (nI (8 + ((t + (2 * p1)) % 4)))), (3, .int (nI (4 + ((t + p1) % 4)))), (2, .int (nI (t))), (0, .ref (r (32))), (1, .int (nI (p1)))]) C.1 C.2.1 dX2_quarterRounds_25 hl (by decide) rfl (fun ls hl => ?_)
      refine lv_bipush (v := 12) C.1 C.2.1 dX2_quarterRounds_27 (by decide) ?_
      refine lv_iload_n C.1 C.2.1 dX2_quarterRounds_29 rfl (lv_at hl 2 rfl) ?_
      refine lv_iconst (v := 3) C.1 C.2.1 dX2_quarterRounds_30 (by decide) ?_
      refine lv_iload_n C.1 C.2.1 dX2_quarterRounds_31 rfl (lv_at hl 4 rfl) ?_
      refine lv_imul C.1 C.2.1 dX2_quarterRounds_32 ?_
      refine m_i (y := nI (3 * p1)) (pk_mul 3 p1) ?_
      refine lv_iadd C.1 C.2.1 dX2_quarterRounds_33 ?_
      refine m_i (y := nI (t + (3 * p1))) (nI_add t (3 * p1)) ?_
      refine lv_iconst (v := 3) C.1 C.2.1 dX2_quarterRounds_34 (by decide) ?_
      refine lv_iand C.1 C.2.1 dX2_quarterRounds_35 ?_
      refine m_i (y := nI ((t + (3 * p1)) % 4)) (pk_andN (n := t + (3 * p1)) (by omega) 2 (by decide)) ?_
      refine lv_iadd C.1 C.2.1 dX2_quarterRounds_36 ?_
      refine m_i (y := nI (12 + ((t + (3 * p1)) % 4))) (nI_add 12 ((t + (3 * p1)) % 4)) ?_
      refine lv_istore (lv' := [(5, .int (nI (12 + ((t + (3 * p1)) % 4)))), (4, .int (nI (8 + ((t + (2 * p1)) % 4)))), (3, .int (nI (4 + ((t + p1) % 4)))), (2, .int (nI (t))), (0, .ref (r (32))), (1, .int (nI (p1)))]) C.1 C.2.1 dX2_quarterRounds_37 hl (by decide) rfl (fun ls hl => ?_)
      refine lv_aload_n C.1 C.2.1 dX2_quarterRounds_39 rfl (lv_at hl 4 rfl) ?_
      refine m_get C w (k := 32) (j := 2) (v := .ref (r (35))) flX2_17 (by decide) rfl rfl dX2_quarterRounds_40 ?_
      refine lv_iload_n C.1 C.2.1 dX2_quarterRounds_43 rfl (lv_at hl 3 rfl) ?_
      refine m_iald C w (k := 35) (i := t) (n := 16) (wr := true) (by decide) rfl (by omega) (by decide) dX2_quarterRounds_44 ?_
      refine lv_aload_n C.1 C.2.1 dX2_quarterRounds_45 rfl (lv_at hl 4 rfl) ?_
      refine m_get C w (k := 32) (j := 2) (v := .ref (r (35))) flX2_17 (by decide) rfl rfl dX2_quarterRounds_46 ?_
      refine lv_iload_n C.1 C.2.1 dX2_quarterRounds_49 rfl (lv_at hl 2 rfl) ?_
      refine m_iald C w (k := 35) (i := 4 + ((t + p1) % 4)) (n := 16) (wr := true) (by decide) rfl (by omega) (by decide) dX2_quarterRounds_50 ?_
      refine lv_iadd C.1 C.2.1 dX2_quarterRounds_51 ?_
      refine lv_topi (fun x6_5 ex6_5 => ?_)
      refine lv_istore (lv' := [(6, .int (x6_5)), (5, .int (nI (12 + ((t + (3 * p1)) % 4)))), (4, .int (nI (8 + ((t + (2 * p1)) % 4)))), (3, .int (nI (4 + ((t + p1) % 4)))), (2, .int (nI (t))), (0, .ref (r (32))), (1, .int (nI (p1)))]) C.1 C.2.1 dX2_quarterRounds_52 hl (by decide) rfl (fun ls hl => ?_)
      refine lv_aload_n C.1 C.2.1 dX2_quarterRounds_54 rfl (lv_at hl 5 rfl) ?_
      refine m_get C w (k := 32) (j := 2) (v := .ref (r (35))) flX2_17 (by decide) rfl rfl dX2_quarterRounds_55 ?_
      refine lv_iload C.1 C.2.1 dX2_quarterRounds_58 (lv_at hl 1 rfl) ?_
      refine m_iald C w (k := 35) (i := 12 + ((t + (3 * p1)) % 4)) (n := 16) (wr := true) (by decide) rfl (by omega) (by decide) dX2_quarterRounds_60 ?_
      refine lv_iload C.1 C.2.1 dX2_quarterRounds_61 (lv_at hl 0 rfl) ?_
      refine lv_ixor C.1 C.2.1 dX2_quarterRounds_63 ?_
      refine lv_topi (fun x7_6 ex7_6 => ?_)
      refine lv_istore (lv' := [(7, .int (x7_6)), (6, .int (x6_5)), (5, .int (nI (12 + ((t + (3 * p1)) % 4)))), (4, .int (nI (8 + ((t + (2 * p1)) % 4)))), (3, .int (nI (4 + ((t + p1) % 4)))), (2, .int (nI (t))), (0, .ref (r (32))), (1, .int (nI (p1)))]) C.1 C.2.1 dX2_quarterRounds_64 hl (by decide) rfl (fun ls hl => ?_)
      refine lv_iload C.1 C.2.1 dX2_quarterRounds_66 (lv_at hl 0 rfl) ?_
      refine lv_bipush (v := 16) C.1 C.2.1 dX2_quarterRounds_68 (by decide) ?_
      refine lv_ishl C.1 C.2.1 dX2_quarterRounds_70 ?_
      refine lv_iload C.1 C.2.1 dX2_quarterRounds_71 (lv_at hl 0 rfl) ?_
      refine lv_bipush (v := 16) C.1 C.2.1 dX2_quarterRounds_73 (by decide) ?_
      refine lv_iushr (v := mm_us (x7_6) (16 : Int32)) C.1 C.2.1 dX2_quarterRounds_75 rfl ?_
      refine lv_ior C.1 C.2.1 dX2_quarterRounds_76 ?_
      refine lv_topi (fun x7_7 ex7_7 => ?_)
      refine lv_istore (lv' := [(7, .int (x7_7)), (6, .int (x6_5)), (5, .int (nI (12 + ((t + (3 * p1)) % 4)))), (4, .int (nI (8 + ((t + (2 * p1)) % 4)))), (3, .int (nI (4 + ((t + p1) % 4)))), (2, .int (nI (t))), (0, .ref (r (32))), (1, .int (nI (p1)))]) C.1 C.2.1 dX2_quarterRounds_77 hl (by decide) rfl (fun ls hl => ?_)
      refine lv_aload_n C.1 C.2.1 dX2_quarterRounds_79 rfl (lv_at hl 6 rfl) ?_
      refine m_get C w (k := 32) (j := 2) (v := .ref (r (35))) flX2_17 (by decide) rfl rfl dX2_quarterRounds_80 ?_
      refine lv_iload C.1 C.2.1 dX2_quarterRounds_83 (lv_at hl 3 rfl) ?_
      refine m_iald C w (k := 35) (i := 8 + ((t + (2 * p1)) % 4)) (n := 16) (wr := true) (by decide) rfl (by omega) (by decide) dX2_quarterRounds_85 ?_
      refine lv_iload C.1 C.2.1 dX2_quarterRounds_86 (lv_at hl 0 rfl) ?_
      refine lv_iadd C.1 C.2.1 dX2_quarterRounds_88 ?_
      refine lv_topi (fun x8_8 ex8_8 => ?_)
      refine lv_istore (lv' := [(8, .int (x8_8)), (7, .int (x7_7)), (6, .int (x6_5)), (5, .int (nI (12 + ((t + (3 * p1)) % 4)))), (4, .int (nI (8 + ((t + (2 * p1)) % 4)))), (3, .int (nI (4 + ((t + p1) % 4)))), (2, .int (nI (t))), (0, .ref (r (32))), (1, .int (nI (p1)))]) C.1 C.2.1 dX2_quarterRounds_89 hl (by decide) rfl (fun ls hl => ?_)
      refine lv_aload_n C.1 C.2.1 dX2_quarterRounds_91 rfl (lv_at hl 7 rfl) ?_
      refine m_get C w (k := 32) (j := 2) (v := .ref (r (35))) flX2_17 (by decide) rfl rfl dX2_quarterRounds_92 ?_
      refine lv_iload_n C.1 C.2.1 dX2_quarterRounds_95 rfl (lv_at hl 5 rfl) ?_
      refine m_iald C w (k := 35) (i := 4 + ((t + p1) % 4)) (n := 16) (wr := true) (by decide) rfl (by omega) (by decide) dX2_quarterRounds_96 ?_
      refine lv_iload C.1 C.2.1 dX2_quarterRounds_97 (lv_at hl 0 rfl) ?_
      refine lv_ixor C.1 C.2.1 dX2_quarterRounds_99 ?_
      refine lv_topi (fun x9_9 ex9_9 => ?_)
      refine lv_istore (lv' := [(9, .int (x9_9)), (8, .int (x8_8)), (7, .int (x7_7)), (6, .int (x6_5)), (5, .int (nI (12 + ((t + (3 * p1)) % 4)))), (4, .int (nI (8 + ((t + (2 * p1)) % 4)))), (3, .int (nI (4 + ((t + p1) % 4)))), (2, .int (nI (t))), (0, .ref (r (32))), (1, .int (nI (p1)))]) C.1 C.2.1 dX2_quarterRounds_100 hl (by decide) rfl (fun ls hl => ?_)
      refine lv_iload C.1 C.2.1 dX2_quarterRounds_102 (lv_at hl 0 rfl) ?_
      refine lv_bipush (v := 12) C.1 C.2.1 dX2_quarterRounds_104 (by decide) ?_
      refine lv_ishl C.1 C.2.1 dX2_quarterRounds_106 ?_
      refine lv_iload C.1 C.2.1 dX2_quarterRounds_107 (lv_at hl 0 rfl) ?_
      refine lv_bipush (v := 20) C.1 C.2.1 dX2_quarterRounds_109 (by decide) ?_
      refine lv_iushr (v := mm_us (x9_9) (20 : Int32)) C.1 C.2.1 dX2_quarterRounds_111 rfl ?_
      refine lv_ior C.1 C.2.1 dX2_quarterRounds_112 ?_
      refine lv_topi (fun x9_10 ex9_10 => ?_)
      refine lv_istore (lv' := [(9, .int (x9_10)), (8, .int (x8_8)), (7, .int (x7_7)), (6, .int (x6_5)), (5, .int (nI (12 + ((t + (3 * p1)) % 4)))), (4, .int (nI (8 + ((t + (2 * p1)) % 4)))), (3, .int (nI (4 + ((t + p1) % 4)))), (2, .int (nI (t))), (0, .ref (r (32))), (1, .int (nI (p1)))]) C.1 C.2.1 dX2_quarterRounds_113 hl (by decide) rfl (fun ls hl => ?_)
      refine lv_iload C.1 C.2.1 dX2_quarterRounds_115 (lv_at hl 3 rfl) ?_
      refine lv_iload C.1 C.2.1 dX2_quarterRounds_117 (lv_at hl 0 rfl) ?_
      refine lv_iadd C.1 C.2.1 dX2_quarterRounds_119 ?_
      refine lv_topi (fun x6_11 ex6_11 => ?_)
      refine lv_istore (lv' := [(6, .int (x6_11)), (9, .int (x9_10)), (8, .int (x8_8)), (7, .int (x7_7)), (5, .int (nI (12 + ((t + (3 * p1)) % 4)))), (4, .int (nI (8 + ((t + (2 * p1)) % 4)))), (3, .int (nI (4 + ((t + p1) % 4)))), (2, .int (nI (t))), (0, .ref (r (32))), (1, .int (nI (p1)))]) C.1 C.2.1 dX2_quarterRounds_120 hl (by decide) rfl (fun ls hl => ?_)
      refine lv_iload C.1 C.2.1 dX2_quarterRounds_122 (lv_at hl 3 rfl) ?_
      refine lv_iload C.1 C.2.1 dX2_quarterRounds_124 (lv_at hl 0 rfl) ?_
      refine lv_ixor C.1 C.2.1 dX2_quarterRounds_126 ?_
      refine lv_topi (fun x7_12 ex7_12 => ?_)
      refine lv_istore (lv' := [(7, .int (x7_12)), (6, .int (x6_11)), (9, .int (x9_10)), (8, .int (x8_8)), (5, .int (nI (12 + ((t + (3 * p1)) % 4)))), (4, .int (nI (8 + ((t + (2 * p1)) % 4)))), (3, .int (nI (4 + ((t + p1) % 4)))), (2, .int (nI (t))), (0, .ref (r (32))), (1, .int (nI (p1)))]) C.1 C.2.1 dX2_quarterRounds_127 hl (by decide) rfl (fun ls hl => ?_)
      refine lv_iload C.1 C.2.1 dX2_quarterRounds_129 (lv_at hl 0 rfl) ?_
      refine lv_bipush (v := 8) C.1 C.2.1 dX2_quarterRounds_131 (by decide) ?_
      refine lv_ishl C.1 C.2.1 dX2_quarterRounds_133 ?_
      refine lv_iload C.1 C.2.1 dX2_quarterRounds_134 (lv_at hl 0 rfl) ?_
      refine lv_bipush (v := 24) C.1 C.2.1 dX2_quarterRounds_136 (by decide) ?_
      refine lv_iushr (v := mm_us (x7_12) (24 : Int32)) C.1 C.2.1 dX2_quarterRounds_138 rfl ?_
      refine lv_ior C.1 C.2.1 dX2_quarterRounds_139 ?_
      refine lv_topi (fun x7_13 ex7_13 => ?_)
      refine lv_istore (lv' := [(7, .int (x7_13)), (6, .int (x6_11)), (9, .int (x9_10)), (8, .int (x8_8)), (5, .int (nI (12 + ((t + (3 * p1)) % 4)))), (4, .int (nI (8 + ((t + (2 * p1)) % 4)))), (3, .int (nI (4 + ((t + p1) % 4)))), (2, .int (nI (t))), (0, .ref (r (32))), (1, .int (nI (p1)))]) C.1 C.2.1 dX2_quarterRounds_140 hl (by decide) rfl (fun ls hl => ?_)
      refine lv_iload C.1 C.2.1 dX2_quarterRounds_142 (lv_at hl 3 rfl) ?_
      refine lv_iload C.1 C.2.1 dX2_quarterRounds_144 (lv_at hl 0 rfl) ?_
      refine lv_iadd C.1 C.2.1 dX2_quarterRounds_146 ?_
      refine lv_topi (fun x8_14 ex8_14 => ?_)
      refine lv_istore (lv' := [(8, .int (x8_14)), (7, .int (x7_13)), (6, .int (x6_11)), (9, .int (x9_10)), (5, .int (nI (12 + ((t + (3 * p1)) % 4)))), (4, .int (nI (8 + ((t + (2 * p1)) % 4)))), (3, .int (nI (4 + ((t + p1) % 4)))), (2, .int (nI (t))), (0, .ref (r (32))), (1, .int (nI (p1)))]) C.1 C.2.1 dX2_quarterRounds_147 hl (by decide) rfl (fun ls hl => ?_)
      refine lv_iload C.1 C.2.1 dX2_quarterRounds_149 (lv_at hl 3 rfl) ?_
      refine lv_iload C.1 C.2.1 dX2_quarterRounds_151 (lv_at hl 0 rfl) ?_
      refine lv_ixor C.1 C.2.1 dX2_quarterRounds_153 ?_
      refine lv_topi (fun x9_15 ex9_15 => ?_)
      refine lv_istore (lv' := [(9, .int (x9_15)), (8, .int (x8_14)), (7, .int (x7_13)), (6, .int (x6_11)), (5, .int (nI (12 + ((t + (3 * p1)) % 4)))), (4, .int (nI (8 + ((t + (2 * p1)) % 4)))), (3, .int (nI (4 + ((t + p1) % 4)))), (2, .int (nI (t))), (0, .ref (r (32))), (1, .int (nI (p1)))]) C.1 C.2.1 dX2_quarterRounds_154 hl (by decide) rfl (fun ls hl => ?_)
      refine lv_iload C.1 C.2.1 dX2_quarterRounds_156 (lv_at hl 0 rfl) ?_
      refine lv_bipush (v := 7) C.1 C.2.1 dX2_quarterRounds_158 (by decide) ?_
      refine lv_ishl C.1 C.2.1 dX2_quarterRounds_160 ?_
      refine lv_iload C.1 C.2.1 dX2_quarterRounds_161 (lv_at hl 0 rfl) ?_
      refine lv_bipush (v := 25) C.1 C.2.1 dX2_quarterRounds_163 (by decide) ?_
      refine lv_iushr (v := mm_us (x9_15) (25 : Int32)) C.1 C.2.1 dX2_quarterRounds_165 rfl ?_
      refine lv_ior C.1 C.2.1 dX2_quarterRounds_166 ?_
      refine lv_topi (fun x9_16 ex9_16 => ?_)
      refine lv_istore (lv' := [(9, .int (x9_16)), (8, .int (x8_14)), (7, .int (x7_13)), (6, .int (x6_11)), (5, .int (nI (12 + ((t + (3 * p1)) % 4)))), (4, .int (nI (8 + ((t + (2 * p1)) % 4)))), (3, .int (nI (4 + ((t + p1) % 4)))), (2, .int (nI (t))), (0, .ref (r (32))), (1, .int (nI (p1)))]) C.1 C.2.1 dX2_quarterRounds_167 hl (by decide) rfl (fun ls hl => ?_)
      refine lv_aload_n C.1 C.2.1 dX2_quarterRounds_169 rfl (lv_at hl 8 rfl) ?_
      refine m_get C w (k := 32) (j := 2) (v := .ref (r (35))) flX2_17 (by decide) rfl rfl dX2_quarterRounds_170 ?_
      refine lv_iload_n C.1 C.2.1 dX2_quarterRounds_173 rfl (lv_at hl 7 rfl) ?_
      refine lv_iload C.1 C.2.1 dX2_quarterRounds_174 (lv_at hl 3 rfl) ?_
      refine m_iast C w (k := 35) (i := t) (n := 16) (x := (x6_11)) (by decide) rfl (by omega) (by decide) dX2_quarterRounds_176 (fun H locs w => ?_)
      obtain ⟨M_17, eM_17⟩ : ∃ zz, zz = mm_w M_3 35 t (x6_11) := ⟨_, rfl⟩
      rw [← eM_17] at w
      refine lv_aload_n C.1 C.2.1 dX2_quarterRounds_177 rfl (lv_at hl 8 rfl) ?_
      refine m_get C w (k := 32) (j := 2) (v := .ref (r (35))) flX2_17 (by decide) rfl rfl dX2_quarterRounds_178 ?_
      refine lv_iload_n C.1 C.2.1 dX2_quarterRounds_181 rfl (lv_at hl 6 rfl) ?_
      refine lv_iload C.1 C.2.1 dX2_quarterRounds_182 (lv_at hl 0 rfl) ?_
      refine m_iast C w (k := 35) (i := 4 + ((t + p1) % 4)) (n := 16) (x := (x9_16)) (by decide) rfl (by omega) (by decide) dX2_quarterRounds_184 (fun H locs w => ?_)
      obtain ⟨M_18, eM_18⟩ : ∃ zz, zz = mm_w M_17 35 (4 + ((t + p1) % 4)) (x9_16) := ⟨_, rfl⟩
      rw [← eM_18] at w
      refine lv_aload_n C.1 C.2.1 dX2_quarterRounds_185 rfl (lv_at hl 8 rfl) ?_
      refine m_get C w (k := 32) (j := 2) (v := .ref (r (35))) flX2_17 (by decide) rfl rfl dX2_quarterRounds_186 ?_
      refine lv_iload C.1 C.2.1 dX2_quarterRounds_189 (lv_at hl 5 rfl) ?_
      refine lv_iload C.1 C.2.1 dX2_quarterRounds_191 (lv_at hl 1 rfl) ?_
      refine m_iast C w (k := 35) (i := 8 + ((t + (2 * p1)) % 4)) (n := 16) (x := (x8_14)) (by decide) rfl (by omega) (by decide) dX2_quarterRounds_193 (fun H locs w => ?_)
      obtain ⟨M_19, eM_19⟩ : ∃ zz, zz = mm_w M_18 35 (8 + ((t + (2 * p1)) % 4)) (x8_14) := ⟨_, rfl⟩
      rw [← eM_19] at w
      refine lv_aload_n C.1 C.2.1 dX2_quarterRounds_194 rfl (lv_at hl 8 rfl) ?_
      refine m_get C w (k := 32) (j := 2) (v := .ref (r (35))) flX2_17 (by decide) rfl rfl dX2_quarterRounds_195 ?_
      refine lv_iload C.1 C.2.1 dX2_quarterRounds_198 (lv_at hl 4 rfl) ?_
      refine lv_iload C.1 C.2.1 dX2_quarterRounds_200 (lv_at hl 2 rfl) ?_
      refine m_iast C w (k := 35) (i := 12 + ((t + (3 * p1)) % 4)) (n := 16) (x := (x7_13)) (by decide) rfl (by omega) (by decide) dX2_quarterRounds_202 (fun H locs w => ?_)
      obtain ⟨M_20, eM_20⟩ : ∃ zz, zz = mm_w M_19 35 (12 + ((t + (3 * p1)) % 4)) (x7_13) := ⟨_, rfl⟩
      rw [← eM_20] at w
      refine lv_iinc (v := (nI (t + 1))) (lv' := [(2, .int (nI (t + 1))), (9, .int (x9_16)), (8, .int (x8_14)), (7, .int (x7_13)), (6, .int (x6_11)), (5, .int (nI (12 + ((t + (3 * p1)) % 4)))), (4, .int (nI (8 + ((t + (2 * p1)) % 4)))), (3, .int (nI (4 + ((t + p1) % 4)))), (0, .ref (r (32))), (1, .int (nI (p1)))]) C.1 C.2.1 dX2_quarterRounds_203 hl (k := 7) rfl (nI_add t 1) (by decide) rfl (fun ls hl => ?_)
      refine lv_goto (tgt := 2) C.1 C.2.1 dX2_quarterRounds_206 (by decide) ?_
      have h9 : lv_has ls 10 [(2, .int (nI (t + 1))), (0, .ref (r (32))), (1, .int (nI (p1)))] := lv_sub hl [0, 8, 9] rfl
      have hlZ : lv_has ls 10 [(2, .int (nI (t + 1))), (0, .ref (r (32))), (1, .int (nI (p1)))] := h9
      have wZ := w
      subst eM_3 ex6_5 ex7_6 ex7_7 ex8_8 ex9_9 ex9_10 ex6_11 ex7_12 ex7_13 ex8_14 ex9_15 ex9_16 eM_17 eM_18 eM_19 eM_20
      refine ih (t + 1) (by omega) _ _ _ (wZ) ?_
      exact hlZ
  exact loop 4 0 (by omega) _ _ ls w hl

def f_X2_nextBlock_L38  (σ : mm_M) : Nat → mm_M
  | 0 => σ
  | t + 1 =>
  let M_7 := f_X2_nextBlock_L38 σ t
  let M_9 := f_X1_storeLittle ((M_7.1 35 t) + (M_7.1 34 t)) 33 (4 * t) M_7
  M_9
theorem w_f_X2_nextBlock_L38  (σ : mm_M) : ∀ t : Nat, mm_fr [33] σ (f_X2_nextBlock_L38 σ t)
  | 0 => mm_fr_refl _ _
  | t + 1 => have ih := w_f_X2_nextBlock_L38 σ t
    ((w_f_X1_storeLittle _ _ _ _).on (by simp) ih)
def f_X2_nextBlock_L17  (σ : mm_M) : Nat → mm_M
  | 0 => σ
  | t + 1 =>
  let M_10 := f_X2_nextBlock_L17 σ t
  let M_12 := f_X2_quarterRounds (t % 2) M_10
  M_12
theorem w_f_X2_nextBlock_L17  (σ : mm_M) : ∀ t : Nat, mm_fr [35] σ (f_X2_nextBlock_L17 σ t)
  | 0 => mm_fr_refl _ _
  | t + 1 => have ih := w_f_X2_nextBlock_L17 σ t
    ((w_f_X2_quarterRounds _ _).on (by simp) ih)
def f_X2_nextBlock  (M : mm_M) : mm_M :=
  let M_1 := mm_cp M 34 0 35 0 16
  let M_2 := f_X2_nextBlock_L17 M_1 20
  let M_4 := f_X2_nextBlock_L38 M_2 16
  let M_6 := mm_w M_4 34 12 ((M_4.1 34 12) + (1 : Int32))
  M_6
theorem w_f_X2_nextBlock  (M : mm_M) : mm_fr [35, 34, 33] M (f_X2_nextBlock  M) := by
  unfold f_X2_nextBlock
  exact (mm_fr_w (by simp) ((w_f_X2_nextBlock_L38 _ 16).on (by simp) ((w_f_X2_nextBlock_L17 _ 20).on (by simp) (mm_fr_cp (by simp) (mm_fr_refl _ _)))))
set_option maxHeartbeats 4000000 in
set_option maxRecDepth 100000 in
theorem c_X2_nextBlock (l : Launch) (D : va_G) (b0 : Nat) (r : Nat → Nat) (M : mm_M)   : mm_Mv l yX2_nextBlock cX2_nextBlock 2 1 48 D b0 r [.ref (r (32))] M (fun M' => M' = f_X2_nextBlock  M) := by
  refine mm_enter (cc := cX2_nextBlock) (nL := 2) (ret := none) (by decide) (Nat.le_of_ble_eq_true rfl) ?_
  intro p e s m args below meth c C w ls hl
  have hl : lv_has ls 2 [(0, .ref (r (32)))] := hl
  refine lv_aload_n C.1 C.2.1 dX2_nextBlock_0 rfl (lv_at hl 0 rfl) ?_
  refine m_get C w (k := 32) (j := 1) (v := .ref (r (34))) flX2_13 (by decide) rfl rfl dX2_nextBlock_1 ?_
  refine lv_iconst (v := 0) C.1 C.2.1 dX2_nextBlock_4 (by decide) ?_
  refine lv_aload_n C.1 C.2.1 dX2_nextBlock_5 rfl (lv_at hl 0 rfl) ?_
  refine m_get C w (k := 32) (j := 2) (v := .ref (r (35))) flX2_17 (by decide) rfl rfl dX2_nextBlock_6 ?_
  refine lv_iconst (v := 0) C.1 C.2.1 dX2_nextBlock_9 (by decide) ?_
  refine lv_bipush (v := 16) C.1 C.2.1 dX2_nextBlock_10 (by decide) ?_
  refine m_cpi C w hl (k := 34) (k2 := 35) (sp := 0) (dp := 0) (n := 16) (by decide) rfl (by decide) (by decide) rfl (by decide) acX2_30 (by omega) (by omega) (Nat.le_of_ble_eq_true rfl) (Nat.le_of_ble_eq_true rfl) dX2_nextBlock_12 (fun H locs w => ?_)
  obtain ⟨M_1, eM_1⟩ : ∃ zz, zz = mm_cp M 34 0 35 0 16 := ⟨_, rfl⟩
  rw [← eM_1] at w
  refine lv_iconst (v := 0) C.1 C.2.1 dX2_nextBlock_15 (by decide) ?_
  refine lv_istore_n (lv' := [(1, .int 0), (0, .ref (r (32)))]) C.1 C.2.1 dX2_nextBlock_16 rfl hl (by decide) rfl (fun ls hl => ?_)
  have loop : ∀ (k t : Nat), t + k = 20 → ∀ (H : Heap) (locs : List Loc) (ls : Array Slot), mm_W D b0 r (f_X2_nextBlock_L17 M_1 t) s H locs → lv_has ls 2 [(1, .int (nI (t))), (0, .ref (r (32)))] → W p l e (mm_rm 1 48) s m args below meth c H locs 0 0 (MQ below (va_Qv (fun M' => M' = f_X2_nextBlock  M) (mm_U D b0 r) (fun q => b0 ≤ q)) args s 0 0 (fun q => b0 ≤ q)) (F0 m 17 ls []) := by
    intro k
    induction k with
    | zero =>
      intro t ht H locs ls w hl
      obtain rfl : 20 = t := by omega
      obtain ⟨M_2, eM_2⟩ : ∃ zz, zz = f_X2_nextBlock_L17 M_1 20 := ⟨_, rfl⟩
      rw [← eM_2] at w
      refine lv_iload_n C.1 C.2.1 dX2_nextBlock_17 rfl (lv_at hl 0 rfl) ?_
      refine lv_bipush (v := 20) C.1 C.2.1 dX2_nextBlock_18 (by decide) ?_
      refine m_icmp_ge (tgt := 36) (a := 20) (b := 20) C (by omega) (by omega) dX2_nextBlock_20 (by decide) (fun _ => ?_) (fun h_3 => absurd h_3 (by omega))
      refine lv_iconst (v := 0) C.1 C.2.1 dX2_nextBlock_36 (by decide) ?_
      refine lv_istore_n (lv' := [(1, .int 0), (0, .ref (r (32)))]) C.1 C.2.1 dX2_nextBlock_37 rfl hl (by decide) rfl (fun ls hl => ?_)
      have loop : ∀ (k t : Nat), t + k = 16 → ∀ (H : Heap) (locs : List Loc) (ls : Array Slot), mm_W D b0 r (f_X2_nextBlock_L38 M_2 t) s H locs → lv_has ls 2 [(1, .int (nI (t))), (0, .ref (r (32)))] → W p l e (mm_rm 1 48) s m args below meth c H locs 0 0 (MQ below (va_Qv (fun M' => M' = f_X2_nextBlock  M) (mm_U D b0 r) (fun q => b0 ≤ q)) args s 0 0 (fun q => b0 ≤ q)) (F0 m 38 ls []) := by
        intro k
        induction k with
        | zero =>
          intro t ht H locs ls w hl
          obtain rfl : 16 = t := by omega
          obtain ⟨M_4, eM_4⟩ : ∃ zz, zz = f_X2_nextBlock_L38 M_2 16 := ⟨_, rfl⟩
          rw [← eM_4] at w
          refine lv_iload_n C.1 C.2.1 dX2_nextBlock_38 rfl (lv_at hl 0 rfl) ?_
          refine lv_bipush (v := 16) C.1 C.2.1 dX2_nextBlock_39 (by decide) ?_
          refine m_icmp_ge (tgt := 73) (a := 16) (b := 16) C (by omega) (by omega) dX2_nextBlock_41 (by decide) (fun _ => ?_) (fun h_5 => absurd h_5 (by omega))
          refine lv_aload_n C.1 C.2.1 dX2_nextBlock_73 rfl (lv_at hl 1 rfl) ?_
          refine m_get C w (k := 32) (j := 1) (v := .ref (r (34))) flX2_13 (by decide) rfl rfl dX2_nextBlock_74 ?_
          refine lv_bipush (v := 12) C.1 C.2.1 dX2_nextBlock_77 (by decide) ?_
          refine lv_dup2_11 C.1 C.2.1 dX2_nextBlock_79 rfl rfl ?_
          refine m_iald C w (k := 34) (i := 12) (n := 16) (wr := true) (by decide) rfl (by omega) (by decide) dX2_nextBlock_80 ?_
          refine lv_iconst (v := 1) C.1 C.2.1 dX2_nextBlock_81 (by decide) ?_
          refine lv_iadd C.1 C.2.1 dX2_nextBlock_82 ?_
          refine m_iast C w (k := 34) (i := 12) (n := 16) (x := ((M_4.1 34 12) + (1 : Int32))) (by decide) rfl (by omega) (by decide) dX2_nextBlock_83 (fun H locs w => ?_)
          obtain ⟨M_6, eM_6⟩ : ∃ zz, zz = mm_w M_4 34 12 ((M_4.1 34 12) + (1 : Int32)) := ⟨_, rfl⟩
          rw [← eM_6] at w
          exact m_vret C w (by subst eM_1 eM_2 eM_4 eM_6; exact Eq.symm (rfl)) dX2_nextBlock_84
        | succ k ih =>
          intro t ht H locs ls w hl
          obtain ⟨M_7, eM_7⟩ : ∃ zz, zz = f_X2_nextBlock_L38 M_2 t := ⟨_, rfl⟩
          rw [← eM_7] at w
          refine lv_iload_n C.1 C.2.1 dX2_nextBlock_38 rfl (lv_at hl 0 rfl) ?_
          refine lv_bipush (v := 16) C.1 C.2.1 dX2_nextBlock_39 (by decide) ?_
          refine m_icmp_ge (tgt := 73) (a := t) (b := 16) C (by omega) (by omega) dX2_nextBlock_41 (by decide) (fun h_8 => absurd h_8 (by omega)) (fun _ => ?_)
          refine lv_aload_n C.1 C.2.1 dX2_nextBlock_44 rfl (lv_at hl 1 rfl) ?_
          refine m_get C w (k := 32) (j := 2) (v := .ref (r (35))) flX2_17 (by decide) rfl rfl dX2_nextBlock_45 ?_
          refine lv_iload_n C.1 C.2.1 dX2_nextBlock_48 rfl (lv_at hl 0 rfl) ?_
          refine m_iald C w (k := 35) (i := t) (n := 16) (wr := true) (by decide) rfl (by omega) (by decide) dX2_nextBlock_49 ?_
          refine lv_aload_n C.1 C.2.1 dX2_nextBlock_50 rfl (lv_at hl 1 rfl) ?_
          refine m_get C w (k := 32) (j := 1) (v := .ref (r (34))) flX2_13 (by decide) rfl rfl dX2_nextBlock_51 ?_
          refine lv_iload_n C.1 C.2.1 dX2_nextBlock_54 rfl (lv_at hl 0 rfl) ?_
          refine m_iald C w (k := 34) (i := t) (n := 16) (wr := true) (by decide) rfl (by omega) (by decide) dX2_nextBlock_55 ?_
          refine lv_iadd C.1 C.2.1 dX2_nextBlock_56 ?_
          refine lv_aload_n C.1 C.2.1 dX2_nextBlock_57 rfl (lv_at hl 1 rfl) ?_
          refine m_get C w (k := 32) (j := 0) (v := .ref (r (33))) flX2_9 (by decide) rfl rfl dX2_nextBlock_58 ?_
          refine lv_iconst (v := 4) C.1 C.2.1 dX2_nextBlock_61 (by decide) ?_
          refine lv_iload_n C.1 C.2.1 dX2_nextBlock_62 rfl (lv_at hl 0 rfl) ?_
          refine lv_imul C.1 C.2.1 dX2_nextBlock_63 ?_
          refine m_i (y := nI (4 * t)) (pk_mul 4 t) ?_
          refine m_csv C w hl csX2_40 (As := [.int ((M_7.1 35 t) + (M_7.1 34 t)), .ref (r (33)), .int (nI (4 * t))]) (rest := []) (c_X1_storeLittle l D b0 r M_7 ((M_7.1 35 t) + (M_7.1 34 t)) 33 (4 * t) (by decide) rfl (by decide) (by omega)) rfl rfl (Nat.le_of_ble_eq_true rfl) ⟨Nat.le_of_ble_eq_true rfl, Nat.le_of_ble_eq_true rfl⟩ ⟨Nat.zero_le _, Nat.zero_le _⟩ dX2_nextBlock_64 (fun M_9 H locs eM_9 w => ?_)
          refine lv_iinc (v := (nI (t + 1))) (lv' := [(1, .int (nI (t + 1))), (0, .ref (r (32)))]) C.1 C.2.1 dX2_nextBlock_67 hl (k := 0) rfl (nI_add t 1) (by decide) rfl (fun ls hl => ?_)
          refine lv_goto (tgt := 38) C.1 C.2.1 dX2_nextBlock_70 (by decide) ?_
          have h9 : lv_has ls 2 [(1, .int (nI (t + 1))), (0, .ref (r (32)))] := lv_sub hl [0, 1] rfl
          have hlZ : lv_has ls 2 [(1, .int (nI (t + 1))), (0, .ref (r (32)))] := h9
          have wZ := w
          subst eM_7 eM_9
          refine ih (t + 1) (by omega) _ _ _ (wZ) ?_
          exact hlZ
      exact loop 16 0 (by omega) _ _ ls w hl
    | succ k ih =>
      intro t ht H locs ls w hl
      obtain ⟨M_10, eM_10⟩ : ∃ zz, zz = f_X2_nextBlock_L17 M_1 t := ⟨_, rfl⟩
      rw [← eM_10] at w
      refine lv_iload_n C.1 C.2.1 dX2_nextBlock_17 rfl (lv_at hl 0 rfl) ?_
      refine lv_bipush (v := 20) C.1 C.2.1 dX2_nextBlock_18 (by decide) ?_
      refine m_icmp_ge (tgt := 36) (a := t) (b := 20) C (by omega) (by omega) dX2_nextBlock_20 (by decide) (fun h_11 => absurd h_11 (by omega)) (fun _ => ?_)
      refine lv_aload_n C.1 C.2.1 dX2_nextBlock_23 rfl (lv_at hl 1 rfl) ?_
      refine lv_iload_n C.1 C.2.1 dX2_nextBlock_24 rfl (lv_at hl 0 rfl) ?_
      refine lv_iconst (v := 1) C.1 C.2.1 dX2_nextBlock_25 (by decide) ?_
      refine lv_iand C.1 C.2.1 dX2_nextBlock_26 ?_
      refine m_i (y := nI (t % 2)) (pk_andN (n := t) (by omega) 1 (by decide)) ?_
      refine m_cvv C w hl cvX2_36 (k := 32) (by decide) rfl (q := (RX2, TX2, 3)) rfl rfl (As := [.int (nI (t % 2))]) (rest := []) (c_X2_quarterRounds l D b0 r M_10 (t % 2) (by omega)) rfl rfl (Nat.le_of_ble_eq_true rfl) ⟨Nat.le_of_ble_eq_true rfl, Nat.le_of_ble_eq_true rfl⟩ ⟨Nat.zero_le _, Nat.zero_le _⟩ dX2_nextBlock_27 (fun M_12 H locs eM_12 w => ?_)
      refine lv_iinc (v := (nI (t + 1))) (lv' := [(1, .int (nI (t + 1))), (0, .ref (r (32)))]) C.1 C.2.1 dX2_nextBlock_30 hl (k := 0) rfl (nI_add t 1) (by decide) rfl (fun ls hl => ?_)
      refine lv_goto (tgt := 17) C.1 C.2.1 dX2_nextBlock_33 (by decide) ?_
      have h9 : lv_has ls 2 [(1, .int (nI (t + 1))), (0, .ref (r (32)))] := lv_sub hl [0, 1] rfl
      have hlZ : lv_has ls 2 [(1, .int (nI (t + 1))), (0, .ref (r (32)))] := h9
      have wZ := w
      subst eM_10 eM_12
      refine ih (t + 1) (by omega) _ _ _ (wZ) ?_
      exact hlZ
  exact loop 20 0 (by omega) _ _ ls w hl
