def f_J6_rotateRight_7cf53 (v1 : Int32) (v2 : Int32) : Int32 :=
  ((mm_us (v1) (v2)) ||| ((v1) <<< ((-(v2)) &&& 31)))
set_option maxHeartbeats 4000000 in
set_option maxRecDepth 100000 in
theorem c_J6_rotateRight_7cf53 (l : Launch) (D : va_G) (b0 : Nat) (r : Nat → Nat) (M : mm_M) (v1 : Int32) (v2 : Int32)  : mm_Mi l yJ6_rotateRight_7cf53 cJ6_rotateRight_7cf53 2 .int 0 0 D b0 r [.int (v1), .int (v2)] M (fun v M' => v = f_J6_rotateRight_7cf53 v1 v2 ∧ M' = M) := by
  refine mm_enter (cc := cJ6_rotateRight_7cf53) (nL := 2) (ret := (some .int)) (by decide) (Nat.le_of_ble_eq_true rfl) ?_
  intro p e s m args below meth c C w ls hl
  have hl : lv_has ls 2 [(0, .int (v1)), (1, .int (v2))] := hl
  refine lv_iload_n C.1 C.2.1 dJ6_rotateRight_7cf53_0 rfl (lv_at hl 0 rfl) ?_
  refine lv_iload_n C.1 C.2.1 dJ6_rotateRight_7cf53_1 rfl (lv_at hl 1 rfl) ?_
  refine lv_iushr (v := mm_us (v1) (v2)) C.1 C.2.1 dJ6_rotateRight_7cf53_2 rfl ?_
  refine lv_iload_n C.1 C.2.1 dJ6_rotateRight_7cf53_3 rfl (lv_at hl 0 rfl) ?_
  refine lv_iload_n C.1 C.2.1 dJ6_rotateRight_7cf53_4 rfl (lv_at hl 1 rfl) ?_
  refine lv_ineg C.1 C.2.1 dJ6_rotateRight_7cf53_5 ?_
  refine lv_ishl C.1 C.2.1 dJ6_rotateRight_7cf53_6 ?_
  refine lv_ior C.1 C.2.1 dJ6_rotateRight_7cf53_7 ?_
  exact m_iret C w ⟨by exact Eq.symm (rfl), rfl⟩ dJ6_rotateRight_7cf53_8

def f_X8_reset  (M : mm_M) : mm_M :=
  let M_1 := mm_cp M 175 0 24 0 8
  let M_2 := mm_w M_1 23 3 (0 : Int32)
  let M_3 := mm_wl M_2 23 4 (0)
  M_3
theorem w_f_X8_reset  (M : mm_M) : mm_fr [24, 23] M (f_X8_reset  M) := by
  unfold f_X8_reset
  exact (mm_fr_wl (by simp) (mm_fr_w (by simp) (mm_fr_cp (by simp) (mm_fr_refl _ _))))
set_option maxHeartbeats 4000000 in
set_option maxRecDepth 100000 in
theorem c_X8_reset (l : Launch) (D : va_G) (b0 : Nat) (r : Nat → Nat) (M : mm_M)   : mm_Mv l yX8_reset cX8_reset 1 1 48 D b0 r [.ref (r (23))] M (fun M' => M' = f_X8_reset  M) := by
  refine mm_enter (cc := cX8_reset) (nL := 1) (ret := none) (by decide) (Nat.le_of_ble_eq_true rfl) ?_
  intro p e s m args below meth c C w ls hl
  have hl : lv_has ls 1 [(0, .ref (r (23)))] := hl
  refine m_gets C w C.2.2.2.2.2.2.2.1.2.2.1 fsX8_28 dX8_reset_0 ?_
  refine lv_iconst (v := 0) C.1 C.2.1 dX8_reset_3 (by decide) ?_
  refine lv_aload_n C.1 C.2.1 dX8_reset_4 rfl (lv_at hl 0 rfl) ?_
  refine m_get C w (k := 23) (j := 0) (v := .ref (r (24))) flX8_7 (by decide) rfl rfl dX8_reset_5 ?_
  refine lv_iconst (v := 0) C.1 C.2.1 dX8_reset_8 (by decide) ?_
  refine lv_bipush (v := 8) C.1 C.2.1 dX8_reset_9 (by decide) ?_
  refine m_cpi C w hl (k := 175) (k2 := 24) (sp := 0) (dp := 0) (n := 8) (by decide) rfl (by decide) (by decide) rfl (by decide) acX8_31 (by omega) (by omega) (Nat.le_of_ble_eq_true rfl) (Nat.le_of_ble_eq_true rfl) dX8_reset_11 (fun H locs w => ?_)
  obtain ⟨M_1, eM_1⟩ : ∃ zz, zz = mm_cp M 175 0 24 0 8 := ⟨_, rfl⟩
  rw [← eM_1] at w
  refine lv_aload_n C.1 C.2.1 dX8_reset_14 rfl (lv_at hl 0 rfl) ?_
  refine lv_iconst (v := 0) C.1 C.2.1 dX8_reset_15 (by decide) ?_
  refine m_puti C w (k := 23) (j := 3) (x := (0 : Int32)) rfl flX8_20w (by decide) rfl rfl dX8_reset_16 (fun H locs w => ?_)
  obtain ⟨M_2, eM_2⟩ : ∃ zz, zz = mm_w M_1 23 3 (0 : Int32) := ⟨_, rfl⟩
  rw [← eM_2] at w
  refine lv_aload_n C.1 C.2.1 dX8_reset_19 rfl (lv_at hl 0 rfl) ?_
  refine lv_lconst (v := 0) C.1 C.2.1 dX8_reset_20 (by decide) ?_
  refine m_putl C w (k := 23) (j := 4) (x := (0)) flX8_24w (by decide) rfl rfl dX8_reset_21 (fun H locs w => ?_)
  obtain ⟨M_3, eM_3⟩ : ∃ zz, zz = mm_wl M_2 23 4 (0) := ⟨_, rfl⟩
  rw [← eM_3] at w
  exact m_vret C w (by subst eM_1 eM_2 eM_3; exact Eq.symm (rfl)) dX8_reset_24

def f_X8_clearBlock_L2 (p1 : Nat) (σ : mm_M) : Nat → mm_M
  | 0 => σ
  | t + 1 =>
  let M_3 := f_X8_clearBlock_L2 p1 σ t
  let M_5 := mm_w M_3 26 (p1 + t) (0 : Int32)
  M_5
theorem w_f_X8_clearBlock_L2 (p1 : Nat) (σ : mm_M) : ∀ t : Nat, mm_fr [26] σ (f_X8_clearBlock_L2 p1 σ t)
  | 0 => mm_fr_refl _ _
  | t + 1 => have ih := w_f_X8_clearBlock_L2 p1 σ t
    (mm_fr_w (by simp) ih)
def f_X8_clearBlock (p1 : Nat) (M : mm_M) : mm_M :=
  let M_1 := f_X8_clearBlock_L2 p1 M (64 - p1)
  M_1
theorem w_f_X8_clearBlock (p1 : Nat) (M : mm_M) : mm_fr [26] M (f_X8_clearBlock p1 M) := by
  unfold f_X8_clearBlock
  exact ((w_f_X8_clearBlock_L2 _ _ (64 - p1)).on (by simp) (mm_fr_refl _ _))
set_option maxHeartbeats 4000000 in
set_option maxRecDepth 100000 in
theorem c_X8_clearBlock (l : Launch) (D : va_G) (b0 : Nat) (r : Nat → Nat) (M : mm_M) (p1 : Nat) (hp1 : p1 ≤ 64) : mm_Mv l yX8_clearBlock cX8_clearBlock 3 0 0 D b0 r [.ref (r (23)), .int (nI (p1))] M (fun M' => M' = f_X8_clearBlock p1 M) := by
  refine mm_enter (cc := cX8_clearBlock) (nL := 3) (ret := none) (by decide) (Nat.le_of_ble_eq_true rfl) ?_
  intro p e s m args below meth c C w ls hl
  have hl : lv_has ls 3 [(0, .ref (r (23))), (1, .int (nI (p1)))] := hl
  refine lv_iload_n C.1 C.2.1 dX8_clearBlock_0 rfl (lv_at hl 1 rfl) ?_
  refine lv_istore_n (lv' := [(2, .int (nI (p1))), (0, .ref (r (23))), (1, .int (nI (p1)))]) C.1 C.2.1 dX8_clearBlock_1 rfl hl (by decide) rfl (fun ls hl => ?_)
  have loop : ∀ (k t : Nat), t + k = 64 - p1 → ∀ (H : Heap) (locs : List Loc) (ls : Array Slot), mm_W D b0 r (f_X8_clearBlock_L2 p1 M t) s H locs → lv_has ls 3 [(2, .int (nI (p1 + t))), (0, .ref (r (23))), (1, .int (nI (p1)))] → W p l e (mm_rm 0 0) s m args below meth c H locs 0 0 (MQ below (va_Qv (fun M' => M' = f_X8_clearBlock p1 M) (mm_U D b0 r) (fun q => b0 ≤ q)) args s 0 0 (fun q => b0 ≤ q)) (F0 m 2 ls []) := by
    intro k
    induction k with
    | zero =>
      intro t ht H locs ls w hl
      obtain rfl : 64 - p1 = t := by omega
      obtain ⟨M_1, eM_1⟩ : ∃ zz, zz = f_X8_clearBlock_L2 p1 M (64 - p1) := ⟨_, rfl⟩
      rw [← eM_1] at w
      refine lv_iload_n C.1 C.2.1 dX8_clearBlock_2 rfl (lv_at hl 0 rfl) ?_
      refine lv_bipush (v := 64) C.1 C.2.1 dX8_clearBlock_3 (by decide) ?_
      refine m_icmp_ge (tgt := 21) (a := p1 + (64 - p1)) (b := 64) C (by omega) (by omega) dX8_clearBlock_5 (by decide) (fun _ => ?_) (fun h_2 => absurd h_2 (by omega))
      exact m_vret C w (by subst eM_1; exact Eq.symm (rfl)) dX8_clearBlock_21
    | succ k ih =>
      intro t ht H locs ls w hl
      obtain ⟨M_3, eM_3⟩ : ∃ zz, zz = f_X8_clearBlock_L2 p1 M t := ⟨_, rfl⟩
      rw [← eM_3] at w
      refine lv_iload_n C.1 C.2.1 dX8_clearBlock_2 rfl (lv_at hl 0 rfl) ?_
      refine lv_bipush (v := 64) C.1 C.2.1 dX8_clearBlock_3 (by decide) ?_
      refine m_icmp_ge (tgt := 21) (a := p1 + t) (b := 64) C (by omega) (by omega) dX8_clearBlock_5 (by decide) (fun h_4 => absurd h_4 (by omega)) (fun _ => ?_)
      refine lv_aload_n C.1 C.2.1 dX8_clearBlock_8 rfl (lv_at hl 1 rfl) ?_
      refine m_get C w (k := 23) (j := 2) (v := .ref (r (26))) flX8_16 (by decide) rfl rfl dX8_clearBlock_9 ?_
      refine lv_iload_n C.1 C.2.1 dX8_clearBlock_12 rfl (lv_at hl 0 rfl) ?_
      refine lv_iconst (v := 0) C.1 C.2.1 dX8_clearBlock_13 (by decide) ?_
      refine m_bast C w (k := 26) (i := p1 + t) (n := 64) (x := (0 : Int32)) (by decide) rfl (by omega) (by decide) (by decide) dX8_clearBlock_14 (fun H locs w => ?_)
      obtain ⟨M_5, eM_5⟩ : ∃ zz, zz = mm_w M_3 26 (p1 + t) (0 : Int32) := ⟨_, rfl⟩
      rw [← eM_5] at w
      refine lv_iinc (v := (nI (p1 + t + 1))) (lv' := [(2, .int (nI (p1 + t + 1))), (0, .ref (r (23))), (1, .int (nI (p1)))]) C.1 C.2.1 dX8_clearBlock_15 hl (k := 0) rfl (nI_add (p1 + t) 1) (by decide) rfl (fun ls hl => ?_)
      refine lv_goto (tgt := 2) C.1 C.2.1 dX8_clearBlock_18 (by decide) ?_
      have h9 : lv_has ls 3 [(2, .int (nI (p1 + t + 1))), (0, .ref (r (23))), (1, .int (nI (p1)))] := lv_sub hl [0, 1, 2] rfl
      rw [show ((nI (p1 + t + 1)) : Int32) = (nI (p1 + (t + 1))) from (by first | rfl | (congr 1; omega))] at h9
      have hlZ : lv_has ls 3 [(2, .int (nI (p1 + (t + 1)))), (0, .ref (r (23))), (1, .int (nI (p1)))] := h9
      have wZ := w
      subst eM_3 eM_5
      refine ih (t + 1) (by omega) _ _ _ (wZ) ?_
      exact hlZ
  exact loop (64 - p1) 0 (by omega) _ _ ls w (by have h9 := hl; first | exact h9 | simpa using h9)

def f_X8_fillSchedule_L33  (σ : mm_M) : Nat → mm_M
  | 0 => σ
  | t + 1 =>
  let M_5 := f_X8_fillSchedule_L33 σ t
  let x2_7 := M_5.1 25 ((16 + t) - 15)
  let x3_8 := M_5.1 25 ((16 + t) - 2)
  let x4_11 := ((f_J6_rotateRight_7cf53 (x2_7) (7 : Int32)) ^^^ (f_J6_rotateRight_7cf53 (x2_7) (18 : Int32))) ^^^ (mm_us (x2_7) (3 : Int32))
  let x5_14 := ((f_J6_rotateRight_7cf53 (x3_8) (17 : Int32)) ^^^ (f_J6_rotateRight_7cf53 (x3_8) (19 : Int32))) ^^^ (mm_us (x3_8) (10 : Int32))
  let M_15 := mm_w M_5 25 (16 + t) ((((M_5.1 25 ((16 + t) - 16)) + (x4_11)) + (M_5.1 25 ((16 + t) - 7))) + (x5_14))
  M_15
theorem w_f_X8_fillSchedule_L33  (σ : mm_M) : ∀ t : Nat, mm_fr [25] σ (f_X8_fillSchedule_L33 σ t)
  | 0 => mm_fr_refl _ _
  | t + 1 => have ih := w_f_X8_fillSchedule_L33 σ t
    (mm_fr_w (by simp) ih)
def f_X8_fillSchedule_L2  (σ : mm_M) : Nat → mm_M
  | 0 => σ
  | t + 1 =>
  let M_16 := f_X8_fillSchedule_L2 σ t
  let M_19 := mm_w M_16 25 t (f_X1_loadBig 26 (4 * t) M_16)
  M_19
theorem w_f_X8_fillSchedule_L2  (σ : mm_M) : ∀ t : Nat, mm_fr [25] σ (f_X8_fillSchedule_L2 σ t)
  | 0 => mm_fr_refl _ _
  | t + 1 => have ih := w_f_X8_fillSchedule_L2 σ t
    (mm_fr_w (by simp) ih)
def f_X8_fillSchedule  (M : mm_M) : mm_M :=
  let M_1 := f_X8_fillSchedule_L2 M 16
  let M_3 := f_X8_fillSchedule_L33 M_1 48
  M_3
theorem w_f_X8_fillSchedule  (M : mm_M) : mm_fr [25] M (f_X8_fillSchedule  M) := by
  unfold f_X8_fillSchedule
  exact ((w_f_X8_fillSchedule_L33 _ 48).on (by simp) ((w_f_X8_fillSchedule_L2 _ 16).on (by simp) (mm_fr_refl _ _)))
set_option maxHeartbeats 4000000 in
set_option maxRecDepth 100000 in
theorem c_X8_fillSchedule (l : Launch) (D : va_G) (b0 : Nat) (r : Nat → Nat) (M : mm_M)   : mm_Mv l yX8_fillSchedule cX8_fillSchedule 6 1 21 D b0 r [.ref (r (23))] M (fun M' => M' = f_X8_fillSchedule  M) := by
  refine mm_enter (cc := cX8_fillSchedule) (nL := 6) (ret := none) (by decide) (Nat.le_of_ble_eq_true rfl) ?_
  intro p e s m args below meth c C w ls hl
  have hl : lv_has ls 6 [(0, .ref (r (23)))] := hl
  refine lv_iconst (v := 0) C.1 C.2.1 dX8_fillSchedule_0 (by decide) ?_
  refine lv_istore_n (lv' := [(1, .int 0), (0, .ref (r (23)))]) C.1 C.2.1 dX8_fillSchedule_1 rfl hl (by decide) rfl (fun ls hl => ?_)
  have loop : ∀ (k t : Nat), t + k = 16 → ∀ (H : Heap) (locs : List Loc) (ls : Array Slot), mm_W D b0 r (f_X8_fillSchedule_L2 M t) s H locs → lv_has ls 6 [(1, .int (nI (t))), (0, .ref (r (23)))] → W p l e (mm_rm 1 21) s m args below meth c H locs 0 0 (MQ below (va_Qv (fun M' => M' = f_X8_fillSchedule  M) (mm_U D b0 r) (fun q => b0 ≤ q)) args s 0 0 (fun q => b0 ≤ q)) (F0 m 2 ls []) := by
    intro k
    induction k with
    | zero =>
      intro t ht H locs ls w hl
      obtain rfl : 16 = t := by omega
      obtain ⟨M_1, eM_1⟩ : ∃ zz, zz = f_X8_fillSchedule_L2 M 16 := ⟨_, rfl⟩
      rw [← eM_1] at w
      refine lv_iload_n C.1 C.2.1 dX8_fillSchedule_2 rfl (lv_at hl 0 rfl) ?_
      refine lv_bipush (v := 16) C.1 C.2.1 dX8_fillSchedule_3 (by decide) ?_
      refine m_icmp_ge (tgt := 30) (a := 16) (b := 16) C (by omega) (by omega) dX8_fillSchedule_5 (by decide) (fun _ => ?_) (fun h_2 => absurd h_2 (by omega))
      refine lv_bipush (v := 16) C.1 C.2.1 dX8_fillSchedule_30 (by decide) ?_
      refine lv_istore_n (lv' := [(1, .int 16), (0, .ref (r (23)))]) C.1 C.2.1 dX8_fillSchedule_32 rfl hl (by decide) rfl (fun ls hl => ?_)
      have loop : ∀ (k t : Nat), t + k = 48 → ∀ (H : Heap) (locs : List Loc) (ls : Array Slot), mm_W D b0 r (f_X8_fillSchedule_L33 M_1 t) s H locs → lv_has ls 6 [(1, .int (nI (16 + t))), (0, .ref (r (23)))] → W p l e (mm_rm 1 21) s m args below meth c H locs 0 0 (MQ below (va_Qv (fun M' => M' = f_X8_fillSchedule  M) (mm_U D b0 r) (fun q => b0 ≤ q)) args s 0 0 (fun q => b0 ≤ q)) (F0 m 33 ls []) := by
        intro k
        induction k with
        | zero =>
          intro t ht H locs ls w hl
          obtain rfl : 48 = t := by omega
          obtain ⟨M_3, eM_3⟩ : ∃ zz, zz = f_X8_fillSchedule_L33 M_1 48 := ⟨_, rfl⟩
          rw [← eM_3] at w
          refine lv_iload_n C.1 C.2.1 dX8_fillSchedule_33 rfl (lv_at hl 0 rfl) ?_
          refine lv_bipush (v := 64) C.1 C.2.1 dX8_fillSchedule_34 (by decide) ?_
          refine m_icmp_ge (tgt := 134) (a := 16 + 48) (b := 64) C (by omega) (by omega) dX8_fillSchedule_36 (by decide) (fun _ => ?_) (fun h_4 => absurd h_4 (by omega))
          exact m_vret C w (by subst eM_1 eM_3; exact Eq.symm (rfl)) dX8_fillSchedule_134
        | succ k ih =>
          intro t ht H locs ls w hl
          obtain ⟨M_5, eM_5⟩ : ∃ zz, zz = f_X8_fillSchedule_L33 M_1 t := ⟨_, rfl⟩
          rw [← eM_5] at w
          refine lv_iload_n C.1 C.2.1 dX8_fillSchedule_33 rfl (lv_at hl 0 rfl) ?_
          refine lv_bipush (v := 64) C.1 C.2.1 dX8_fillSchedule_34 (by decide) ?_
          refine m_icmp_ge (tgt := 134) (a := 16 + t) (b := 64) C (by omega) (by omega) dX8_fillSchedule_36 (by decide) (fun h_6 => absurd h_6 (by omega)) (fun _ => ?_)
          refine lv_aload_n C.1 C.2.1 dX8_fillSchedule_39 rfl (lv_at hl 1 rfl) ?_
          refine m_get C w (k := 23) (j := 1) (v := .ref (r (25))) flX8_13 (by decide) rfl rfl dX8_fillSchedule_40 ?_
          refine lv_iload_n C.1 C.2.1 dX8_fillSchedule_43 rfl (lv_at hl 0 rfl) ?_
          refine lv_bipush (v := 15) C.1 C.2.1 dX8_fillSchedule_44 (by decide) ?_
          refine lv_isub C.1 C.2.1 dX8_fillSchedule_46 ?_
          refine m_i (y := nI ((16 + t) - 15)) (pk_sub (a := 16 + t) (b := 15) (by omega)) ?_
          refine m_iald C w (k := 25) (i := (16 + t) - 15) (n := 64) (wr := true) (by decide) rfl (by omega) (by decide) dX8_fillSchedule_47 ?_
          refine lv_topi (fun x2_7 ex2_7 => ?_)
          refine lv_istore_n (lv' := [(2, .int (x2_7)), (1, .int (nI (16 + t))), (0, .ref (r (23)))]) C.1 C.2.1 dX8_fillSchedule_48 rfl hl (by decide) rfl (fun ls hl => ?_)
          refine lv_aload_n C.1 C.2.1 dX8_fillSchedule_49 rfl (lv_at hl 2 rfl) ?_
          refine m_get C w (k := 23) (j := 1) (v := .ref (r (25))) flX8_13 (by decide) rfl rfl dX8_fillSchedule_50 ?_
          refine lv_iload_n C.1 C.2.1 dX8_fillSchedule_53 rfl (lv_at hl 1 rfl) ?_
          refine lv_iconst (v := 2) C.1 C.2.1 dX8_fillSchedule_54 (by decide) ?_
          refine lv_isub C.1 C.2.1 dX8_fillSchedule_55 ?_
          refine m_i (y := nI ((16 + t) - 2)) (pk_sub (a := 16 + t) (b := 2) (by omega)) ?_
          refine m_iald C w (k := 25) (i := (16 + t) - 2) (n := 64) (wr := true) (by decide) rfl (by omega) (by decide) dX8_fillSchedule_56 ?_
          refine lv_topi (fun x3_8 ex3_8 => ?_)
          refine lv_istore_n (lv' := [(3, .int (x3_8)), (2, .int (x2_7)), (1, .int (nI (16 + t))), (0, .ref (r (23)))]) C.1 C.2.1 dX8_fillSchedule_57 rfl hl (by decide) rfl (fun ls hl => ?_)
          refine lv_iload_n C.1 C.2.1 dX8_fillSchedule_58 rfl (lv_at hl 1 rfl) ?_
          refine lv_bipush (v := 7) C.1 C.2.1 dX8_fillSchedule_59 (by decide) ?_
          refine m_csi C w hl csX8_59 (As := [.int (x2_7), .int 7]) (rest := []) (c_J6_rotateRight_7cf53 l D b0 r M_5 (x2_7) (7 : Int32) ) rfl rfl (Nat.le_of_ble_eq_true rfl) ⟨Nat.le_of_ble_eq_true rfl, Nat.le_of_ble_eq_true rfl⟩ ⟨Nat.zero_le _, Nat.zero_le _⟩ dX8_fillSchedule_61 (fun v_9 M9 H locs e9 w => ?_)
          obtain ⟨ev_9, e9⟩ := e9
          rw [e9] at w
          subst ev_9
          refine lv_iload_n C.1 C.2.1 dX8_fillSchedule_64 rfl (lv_at hl 1 rfl) ?_
          refine lv_bipush (v := 18) C.1 C.2.1 dX8_fillSchedule_65 (by decide) ?_
          refine m_csi C w hl csX8_59 (As := [.int (x2_7), .int 18]) (rest := [.int (f_J6_rotateRight_7cf53 (x2_7) (7 : Int32))]) (c_J6_rotateRight_7cf53 l D b0 r M_5 (x2_7) (18 : Int32) ) rfl rfl (Nat.le_of_ble_eq_true rfl) ⟨Nat.le_of_ble_eq_true rfl, Nat.le_of_ble_eq_true rfl⟩ ⟨Nat.zero_le _, Nat.zero_le _⟩ dX8_fillSchedule_67 (fun v_10 M9 H locs e9 w => ?_)
          obtain ⟨ev_10, e9⟩ := e9
          rw [e9] at w
          subst ev_10
          refine lv_ixor C.1 C.2.1 dX8_fillSchedule_70 ?_
          refine lv_iload_n C.1 C.2.1 dX8_fillSchedule_71 rfl (lv_at hl 1 rfl) ?_
          refine lv_iconst (v := 3) C.1 C.2.1 dX8_fillSchedule_72 (by decide) ?_
          refine lv_iushr (v := mm_us (x2_7) (3 : Int32)) C.1 C.2.1 dX8_fillSchedule_73 rfl ?_
          refine lv_ixor C.1 C.2.1 dX8_fillSchedule_74 ?_
          refine lv_topi (fun x4_11 ex4_11 => ?_)
          refine lv_istore (lv' := [(4, .int (x4_11)), (3, .int (x3_8)), (2, .int (x2_7)), (1, .int (nI (16 + t))), (0, .ref (r (23)))]) C.1 C.2.1 dX8_fillSchedule_75 hl (by decide) rfl (fun ls hl => ?_)
          refine lv_iload_n C.1 C.2.1 dX8_fillSchedule_77 rfl (lv_at hl 1 rfl) ?_
          refine lv_bipush (v := 17) C.1 C.2.1 dX8_fillSchedule_78 (by decide) ?_
          refine m_csi C w hl csX8_59 (As := [.int (x3_8), .int 17]) (rest := []) (c_J6_rotateRight_7cf53 l D b0 r M_5 (x3_8) (17 : Int32) ) rfl rfl (Nat.le_of_ble_eq_true rfl) ⟨Nat.le_of_ble_eq_true rfl, Nat.le_of_ble_eq_true rfl⟩ ⟨Nat.zero_le _, Nat.zero_le _⟩ dX8_fillSchedule_80 (fun v_12 M9 H locs e9 w => ?_)
          obtain ⟨ev_12, e9⟩ := e9
          rw [e9] at w
          subst ev_12
          refine lv_iload_n C.1 C.2.1 dX8_fillSchedule_83 rfl (lv_at hl 1 rfl) ?_
          refine lv_bipush (v := 19) C.1 C.2.1 dX8_fillSchedule_84 (by decide) ?_
          refine m_csi C w hl csX8_59 (As := [.int (x3_8), .int 19]) (rest := [.int (f_J6_rotateRight_7cf53 (x3_8) (17 : Int32))]) (c_J6_rotateRight_7cf53 l D b0 r M_5 (x3_8) (19 : Int32) ) rfl rfl (Nat.le_of_ble_eq_true rfl) ⟨Nat.le_of_ble_eq_true rfl, Nat.le_of_ble_eq_true rfl⟩ ⟨Nat.zero_le _, Nat.zero_le _⟩ dX8_fillSchedule_86 (fun v_13 M9 H locs e9 w => ?_)
          obtain ⟨ev_13, e9⟩ := e9
          rw [e9] at w
          subst ev_13
          refine lv_ixor C.1 C.2.1 dX8_fillSchedule_89 ?_
          refine lv_iload_n C.1 C.2.1 dX8_fillSchedule_90 rfl (lv_at hl 1 rfl) ?_
          refine lv_bipush (v := 10) C.1 C.2.1 dX8_fillSchedule_91 (by decide) ?_
          refine lv_iushr (v := mm_us (x3_8) (10 : Int32)) C.1 C.2.1 dX8_fillSchedule_93 rfl ?_
          refine lv_ixor C.1 C.2.1 dX8_fillSchedule_94 ?_
          refine lv_topi (fun x5_14 ex5_14 => ?_)
          refine lv_istore (lv' := [(5, .int (x5_14)), (4, .int (x4_11)), (3, .int (x3_8)), (2, .int (x2_7)), (1, .int (nI (16 + t))), (0, .ref (r (23)))]) C.1 C.2.1 dX8_fillSchedule_95 hl (by decide) rfl (fun ls hl => ?_)
          refine lv_aload_n C.1 C.2.1 dX8_fillSchedule_97 rfl (lv_at hl 5 rfl) ?_
          refine m_get C w (k := 23) (j := 1) (v := .ref (r (25))) flX8_13 (by decide) rfl rfl dX8_fillSchedule_98 ?_
          refine lv_iload_n C.1 C.2.1 dX8_fillSchedule_101 rfl (lv_at hl 4 rfl) ?_
          refine lv_aload_n C.1 C.2.1 dX8_fillSchedule_102 rfl (lv_at hl 5 rfl) ?_
          refine m_get C w (k := 23) (j := 1) (v := .ref (r (25))) flX8_13 (by decide) rfl rfl dX8_fillSchedule_103 ?_
          refine lv_iload_n C.1 C.2.1 dX8_fillSchedule_106 rfl (lv_at hl 4 rfl) ?_
          refine lv_bipush (v := 16) C.1 C.2.1 dX8_fillSchedule_107 (by decide) ?_
          refine lv_isub C.1 C.2.1 dX8_fillSchedule_109 ?_
          refine m_i (y := nI ((16 + t) - 16)) (pk_sub (a := 16 + t) (b := 16) (by omega)) ?_
          refine m_iald C w (k := 25) (i := (16 + t) - 16) (n := 64) (wr := true) (by decide) rfl (by omega) (by decide) dX8_fillSchedule_110 ?_
          refine lv_iload C.1 C.2.1 dX8_fillSchedule_111 (lv_at hl 1 rfl) ?_
          refine lv_iadd C.1 C.2.1 dX8_fillSchedule_113 ?_
          refine lv_aload_n C.1 C.2.1 dX8_fillSchedule_114 rfl (lv_at hl 5 rfl) ?_
          refine m_get C w (k := 23) (j := 1) (v := .ref (r (25))) flX8_13 (by decide) rfl rfl dX8_fillSchedule_115 ?_
          refine lv_iload_n C.1 C.2.1 dX8_fillSchedule_118 rfl (lv_at hl 4 rfl) ?_
          refine lv_bipush (v := 7) C.1 C.2.1 dX8_fillSchedule_119 (by decide) ?_
          refine lv_isub C.1 C.2.1 dX8_fillSchedule_121 ?_
          refine m_i (y := nI ((16 + t) - 7)) (pk_sub (a := 16 + t) (b := 7) (by omega)) ?_
          refine m_iald C w (k := 25) (i := (16 + t) - 7) (n := 64) (wr := true) (by decide) rfl (by omega) (by decide) dX8_fillSchedule_122 ?_
          refine lv_iadd C.1 C.2.1 dX8_fillSchedule_123 ?_
          refine lv_iload C.1 C.2.1 dX8_fillSchedule_124 (lv_at hl 0 rfl) ?_
          refine lv_iadd C.1 C.2.1 dX8_fillSchedule_126 ?_
          refine m_iast C w (k := 25) (i := 16 + t) (n := 64) (x := ((((M_5.1 25 ((16 + t) - 16)) + (x4_11)) + (M_5.1 25 ((16 + t) - 7))) + (x5_14))) (by decide) rfl (by omega) (by decide) dX8_fillSchedule_127 (fun H locs w => ?_)
          obtain ⟨M_15, eM_15⟩ : ∃ zz, zz = mm_w M_5 25 (16 + t) ((((M_5.1 25 ((16 + t) - 16)) + (x4_11)) + (M_5.1 25 ((16 + t) - 7))) + (x5_14)) := ⟨_, rfl⟩
          rw [← eM_15] at w
          refine lv_iinc (v := (nI (16 + t + 1))) (lv' := [(1, .int (nI (16 + t + 1))), (5, .int (x5_14)), (4, .int (x4_11)), (3, .int (x3_8)), (2, .int (x2_7)), (0, .ref (r (23)))]) C.1 C.2.1 dX8_fillSchedule_128 hl (k := 4) rfl (nI_add (16 + t) 1) (by decide) rfl (fun ls hl => ?_)
          refine lv_goto (tgt := 33) C.1 C.2.1 dX8_fillSchedule_131 (by decide) ?_
          have h9 : lv_has ls 6 [(1, .int (nI (16 + t + 1))), (0, .ref (r (23)))] := lv_sub hl [0, 5] rfl
          rw [show ((nI (16 + t + 1)) : Int32) = (nI (16 + (t + 1))) from (by first | rfl | (congr 1; omega))] at h9
          have hlZ : lv_has ls 6 [(1, .int (nI (16 + (t + 1)))), (0, .ref (r (23)))] := h9
          have wZ := w
          subst eM_5 ex2_7 ex3_8 ex4_11 ex5_14 eM_15
          refine ih (t + 1) (by omega) _ _ _ (wZ) ?_
          exact hlZ
      exact loop 48 0 (by omega) _ _ ls w (by have h9 := hl; first | exact h9 | simpa using h9)
    | succ k ih =>
      intro t ht H locs ls w hl
      obtain ⟨M_16, eM_16⟩ : ∃ zz, zz = f_X8_fillSchedule_L2 M t := ⟨_, rfl⟩
      rw [← eM_16] at w
      refine lv_iload_n C.1 C.2.1 dX8_fillSchedule_2 rfl (lv_at hl 0 rfl) ?_
      refine lv_bipush (v := 16) C.1 C.2.1 dX8_fillSchedule_3 (by decide) ?_
      refine m_icmp_ge (tgt := 30) (a := t) (b := 16) C (by omega) (by omega) dX8_fillSchedule_5 (by decide) (fun h_17 => absurd h_17 (by omega)) (fun _ => ?_)
      refine lv_aload_n C.1 C.2.1 dX8_fillSchedule_8 rfl (lv_at hl 1 rfl) ?_
      refine m_get C w (k := 23) (j := 1) (v := .ref (r (25))) flX8_13 (by decide) rfl rfl dX8_fillSchedule_9 ?_
      refine lv_iload_n C.1 C.2.1 dX8_fillSchedule_12 rfl (lv_at hl 0 rfl) ?_
      refine lv_aload_n C.1 C.2.1 dX8_fillSchedule_13 rfl (lv_at hl 1 rfl) ?_
      refine m_get C w (k := 23) (j := 2) (v := .ref (r (26))) flX8_16 (by decide) rfl rfl dX8_fillSchedule_14 ?_
      refine lv_iconst (v := 4) C.1 C.2.1 dX8_fillSchedule_17 (by decide) ?_
      refine lv_iload_n C.1 C.2.1 dX8_fillSchedule_18 rfl (lv_at hl 0 rfl) ?_
      refine lv_imul C.1 C.2.1 dX8_fillSchedule_19 ?_
      refine m_i (y := nI (4 * t)) (pk_mul 4 t) ?_
      refine m_csi C w hl csX8_55 (As := [.ref (r (26)), .int (nI (4 * t))]) (rest := [.int (nI (t)), .ref (r (25))]) (c_X1_loadBig l D b0 r M_16 26 (4 * t) (by decide) rfl (by decide) (by omega)) rfl rfl (Nat.le_of_ble_eq_true rfl) ⟨Nat.le_of_ble_eq_true rfl, Nat.le_of_ble_eq_true rfl⟩ ⟨Nat.zero_le _, Nat.zero_le _⟩ dX8_fillSchedule_20 (fun v_18 M9 H locs e9 w => ?_)
      obtain ⟨ev_18, e9⟩ := e9
      rw [e9] at w
      subst ev_18
      refine m_iast C w (k := 25) (i := t) (n := 64) (x := (f_X1_loadBig 26 (4 * t) M_16)) (by decide) rfl (by omega) (by decide) dX8_fillSchedule_23 (fun H locs w => ?_)
      obtain ⟨M_19, eM_19⟩ : ∃ zz, zz = mm_w M_16 25 t (f_X1_loadBig 26 (4 * t) M_16) := ⟨_, rfl⟩
      rw [← eM_19] at w
      refine lv_iinc (v := (nI (t + 1))) (lv' := [(1, .int (nI (t + 1))), (0, .ref (r (23)))]) C.1 C.2.1 dX8_fillSchedule_24 hl (k := 0) rfl (nI_add t 1) (by decide) rfl (fun ls hl => ?_)
      refine lv_goto (tgt := 2) C.1 C.2.1 dX8_fillSchedule_27 (by decide) ?_
      have h9 : lv_has ls 6 [(1, .int (nI (t + 1))), (0, .ref (r (23)))] := lv_sub hl [0, 1] rfl
      have hlZ : lv_has ls 6 [(1, .int (nI (t + 1))), (0, .ref (r (23)))] := h9
      have wZ := w
      subst eM_16 eM_19
      refine ih (t + 1) (by omega) _ _ _ (wZ) ?_
      exact hlZ
  exact loop 16 0 (by omega) _ _ ls w hl

def f_X8_compress_L66 (M : mm_M) (σ : Int32 × Int32 × Int32 × Int32 × Int32 × Int32 × Int32 × Int32) : Nat → Int32 × Int32 × Int32 × Int32 × Int32 × Int32 × Int32 × Int32
  | 0 => σ
  | t + 1 =>
  let y_26 := (f_X8_compress_L66 M σ t).1
  let y_27 := (f_X8_compress_L66 M σ t).2.1
  let y_28 := (f_X8_compress_L66 M σ t).2.2.1
  let y_29 := (f_X8_compress_L66 M σ t).2.2.2.1
  let y_30 := (f_X8_compress_L66 M σ t).2.2.2.2.1
  let y_31 := (f_X8_compress_L66 M σ t).2.2.2.2.2.1
  let y_32 := (f_X8_compress_L66 M σ t).2.2.2.2.2.2.1
  let y_33 := (f_X8_compress_L66 M σ t).2.2.2.2.2.2.2
  let x10_38 := ((f_J6_rotateRight_7cf53 (y_29) (6 : Int32)) ^^^ (f_J6_rotateRight_7cf53 (y_29) (11 : Int32))) ^^^ (f_J6_rotateRight_7cf53 (y_29) (25 : Int32))
  let x11_39 := ((y_29) &&& (y_28)) ^^^ (((y_29) ^^^ (-1 : Int32)) &&& (y_27))
  let x12_40 := ((((y_26) + (x10_38)) + (x11_39)) + (M.1 176 t)) + (M.1 25 t)
  let x13_44 := ((f_J6_rotateRight_7cf53 (y_33) (2 : Int32)) ^^^ (f_J6_rotateRight_7cf53 (y_33) (13 : Int32))) ^^^ (f_J6_rotateRight_7cf53 (y_33) (22 : Int32))
  let x14_45 := (((y_33) &&& (y_32)) ^^^ ((y_33) &&& (y_31))) ^^^ ((y_32) &&& (y_31))
  let x5_46 := (y_30) + (x12_40)
  let x1_47 := ((x12_40) + (x13_44)) + (x14_45)
  ((y_27), (y_28), (y_29), (x5_46), (y_31), (y_32), (y_33), (x1_47))
def f_X8_compress  (M : mm_M) : mm_M :=
  let x1_1 := M.1 24 0
  let x2_2 := M.1 24 1
  let x3_3 := M.1 24 2
  let x4_4 := M.1 24 3
  let x5_5 := M.1 24 4
  let x6_6 := M.1 24 5
  let x7_7 := M.1 24 6
  let x8_8 := M.1 24 7
  let y_9 := (f_X8_compress_L66 M ((x8_8), (x7_7), (x6_6), (x5_5), (x4_4), (x3_3), (x2_2), (x1_1)) 64).1
  let y_10 := (f_X8_compress_L66 M ((x8_8), (x7_7), (x6_6), (x5_5), (x4_4), (x3_3), (x2_2), (x1_1)) 64).2.1
  let y_11 := (f_X8_compress_L66 M ((x8_8), (x7_7), (x6_6), (x5_5), (x4_4), (x3_3), (x2_2), (x1_1)) 64).2.2.1
  let y_12 := (f_X8_compress_L66 M ((x8_8), (x7_7), (x6_6), (x5_5), (x4_4), (x3_3), (x2_2), (x1_1)) 64).2.2.2.1
  let y_13 := (f_X8_compress_L66 M ((x8_8), (x7_7), (x6_6), (x5_5), (x4_4), (x3_3), (x2_2), (x1_1)) 64).2.2.2.2.1
  let y_14 := (f_X8_compress_L66 M ((x8_8), (x7_7), (x6_6), (x5_5), (x4_4), (x3_3), (x2_2), (x1_1)) 64).2.2.2.2.2.1
  let y_15 := (f_X8_compress_L66 M ((x8_8), (x7_7), (x6_6), (x5_5), (x4_4), (x3_3), (x2_2), (x1_1)) 64).2.2.2.2.2.2.1
  let y_16 := (f_X8_compress_L66 M ((x8_8), (x7_7), (x6_6), (x5_5), (x4_4), (x3_3), (x2_2), (x1_1)) 64).2.2.2.2.2.2.2
  let M_18 := mm_w M 24 0 ((M.1 24 0) + (y_16))
  let M_19 := mm_w M_18 24 1 ((M_18.1 24 1) + (y_15))
  let M_20 := mm_w M_19 24 2 ((M_19.1 24 2) + (y_14))
  let M_21 := mm_w M_20 24 3 ((M_20.1 24 3) + (y_13))
  let M_22 := mm_w M_21 24 4 ((M_21.1 24 4) + (y_12))
  let M_23 := mm_w M_22 24 5 ((M_22.1 24 5) + (y_11))
  let M_24 := mm_w M_23 24 6 ((M_23.1 24 6) + (y_10))
  let M_25 := mm_w M_24 24 7 ((M_24.1 24 7) + (y_9))
  M_25
theorem w_f_X8_compress  (M : mm_M) : mm_fr [24] M (f_X8_compress  M) := by
  unfold f_X8_compress
  exact (mm_fr_w (by simp) (mm_fr_w (by simp) (mm_fr_w (by simp) (mm_fr_w (by simp) (mm_fr_w (by simp) (mm_fr_w (by simp) (mm_fr_w (by simp) (mm_fr_w (by simp) (mm_fr_refl _ _)))))))))
set_option maxHeartbeats 4000000 in
set_option maxRecDepth 100000 in
theorem c_X8_compress (l : Launch) (D : va_G) (b0 : Nat) (r : Nat → Nat) (M : mm_M)   : mm_Mv l yX8_compress cX8_compress 15 1 21 D b0 r [.ref (r (23))] M (fun M' => M' = f_X8_compress  M) := by
  refine mm_enter (cc := cX8_compress) (nL := 15) (ret := none) (by decide) (Nat.le_of_ble_eq_true rfl) ?_
  intro p e s m args below meth c C w ls hl
  have hl : lv_has ls 15 [(0, .ref (r (23)))] := hl
  refine lv_aload_n C.1 C.2.1 dX8_compress_0 rfl (lv_at hl 0 rfl) ?_
  refine m_get C w (k := 23) (j := 0) (v := .ref (r (24))) flX8_7 (by decide) rfl rfl dX8_compress_1 ?_
  refine lv_iconst (v := 0) C.1 C.2.1 dX8_compress_4 (by decide) ?_
  refine m_iald C w (k := 24) (i := 0) (n := 8) (wr := true) (by decide) rfl (by omega) (by decide) dX8_compress_5 ?_
  refine lv_topi (fun x1_1 ex1_1 => ?_)
  refine lv_istore_n (lv' := [(1, .int (x1_1)), (0, .ref (r (23)))]) C.1 C.2.1 dX8_compress_6 rfl hl (by decide) rfl (fun ls hl => ?_)
  refine lv_aload_n C.1 C.2.1 dX8_compress_7 rfl (lv_at hl 1 rfl) ?_
  refine m_get C w (k := 23) (j := 0) (v := .ref (r (24))) flX8_7 (by decide) rfl rfl dX8_compress_8 ?_
  refine lv_iconst (v := 1) C.1 C.2.1 dX8_compress_11 (by decide) ?_
  refine m_iald C w (k := 24) (i := 1) (n := 8) (wr := true) (by decide) rfl (by omega) (by decide) dX8_compress_12 ?_
  refine lv_topi (fun x2_2 ex2_2 => ?_)
  refine lv_istore_n (lv' := [(2, .int (x2_2)), (1, .int (x1_1)), (0, .ref (r (23)))]) C.1 C.2.1 dX8_compress_13 rfl hl (by decide) rfl (fun ls hl => ?_)
  refine lv_aload_n C.1 C.2.1 dX8_compress_14 rfl (lv_at hl 2 rfl) ?_
  refine m_get C w (k := 23) (j := 0) (v := .ref (r (24))) flX8_7 (by decide) rfl rfl dX8_compress_15 ?_
  refine lv_iconst (v := 2) C.1 C.2.1 dX8_compress_18 (by decide) ?_
  refine m_iald C w (k := 24) (i := 2) (n := 8) (wr := true) (by decide) rfl (by omega) (by decide) dX8_compress_19 ?_
  refine lv_topi (fun x3_3 ex3_3 => ?_)
  refine lv_istore_n (lv' := [(3, .int (x3_3)), (2, .int (x2_2)), (1, .int (x1_1)), (0, .ref (r (23)))]) C.1 C.2.1 dX8_compress_20 rfl hl (by decide) rfl (fun ls hl => ?_)
  refine lv_aload_n C.1 C.2.1 dX8_compress_21 rfl (lv_at hl 3 rfl) ?_
  refine m_get C w (k := 23) (j := 0) (v := .ref (r (24))) flX8_7 (by decide) rfl rfl dX8_compress_22 ?_
  refine lv_iconst (v := 3) C.1 C.2.1 dX8_compress_25 (by decide) ?_
  refine m_iald C w (k := 24) (i := 3) (n := 8) (wr := true) (by decide) rfl (by omega) (by decide) dX8_compress_26 ?_
  refine lv_topi (fun x4_4 ex4_4 => ?_)
  refine lv_istore (lv' := [(4, .int (x4_4)), (3, .int (x3_3)), (2, .int (x2_2)), (1, .int (x1_1)), (0, .ref (r (23)))]) C.1 C.2.1 dX8_compress_27 hl (by decide) rfl (fun ls hl => ?_)
  refine lv_aload_n C.1 C.2.1 dX8_compress_29 rfl (lv_at hl 4 rfl) ?_
  refine m_get C w (k := 23) (j := 0) (v := .ref (r (24))) flX8_7 (by decide) rfl rfl dX8_compress_30 ?_
  refine lv_iconst (v := 4) C.1 C.2.1 dX8_compress_33 (by decide) ?_
  refine m_iald C w (k := 24) (i := 4) (n := 8) (wr := true) (by decide) rfl (by omega) (by decide) dX8_compress_34 ?_
  refine lv_topi (fun x5_5 ex5_5 => ?_)
  refine lv_istore (lv' := [(5, .int (x5_5)), (4, .int (x4_4)), (3, .int (x3_3)), (2, .int (x2_2)), (1, .int (x1_1)), (0, .ref (r (23)))]) C.1 C.2.1 dX8_compress_35 hl (by decide) rfl (fun ls hl => ?_)
  refine lv_aload_n C.1 C.2.1 dX8_compress_37 rfl (lv_at hl 5 rfl) ?_
  refine m_get C w (k := 23) (j := 0) (v := .ref (r (24))) flX8_7 (by decide) rfl rfl dX8_compress_38 ?_
  refine lv_iconst (v := 5) C.1 C.2.1 dX8_compress_41 (by decide) ?_
  refine m_iald C w (k := 24) (i := 5) (n := 8) (wr := true) (by decide) rfl (by omega) (by decide) dX8_compress_42 ?_
  refine lv_topi (fun x6_6 ex6_6 => ?_)
  refine lv_istore (lv' := [(6, .int (x6_6)), (5, .int (x5_5)), (4, .int (x4_4)), (3, .int (x3_3)), (2, .int (x2_2)), (1, .int (x1_1)), (0, .ref (r (23)))]) C.1 C.2.1 dX8_compress_43 hl (by decide) rfl (fun ls hl => ?_)
  refine lv_aload_n C.1 C.2.1 dX8_compress_45 rfl (lv_at hl 6 rfl) ?_
  refine m_get C w (k := 23) (j := 0) (v := .ref (r (24))) flX8_7 (by decide) rfl rfl dX8_compress_46 ?_
  refine lv_bipush (v := 6) C.1 C.2.1 dX8_compress_49 (by decide) ?_
  refine m_iald C w (k := 24) (i := 6) (n := 8) (wr := true) (by decide) rfl (by omega) (by decide) dX8_compress_51 ?_
  refine lv_topi (fun x7_7 ex7_7 => ?_)
  refine lv_istore (lv' := [(7, .int (x7_7)), (6, .int (x6_6)), (5, .int (x5_5)), (4, .int (x4_4)), (3, .int (x3_3)), (2, .int (x2_2)), (1, .int (x1_1)), (0, .ref (r (23)))]) C.1 C.2.1 dX8_compress_52 hl (by decide) rfl (fun ls hl => ?_)
  refine lv_aload_n C.1 C.2.1 dX8_compress_54 rfl (lv_at hl 7 rfl) ?_
  refine m_get C w (k := 23) (j := 0) (v := .ref (r (24))) flX8_7 (by decide) rfl rfl dX8_compress_55 ?_
  refine lv_bipush (v := 7) C.1 C.2.1 dX8_compress_58 (by decide) ?_
  refine m_iald C w (k := 24) (i := 7) (n := 8) (wr := true) (by decide) rfl (by omega) (by decide) dX8_compress_60 ?_
  refine lv_topi (fun x8_8 ex8_8 => ?_)
  refine lv_istore (lv' := [(8, .int (x8_8)), (7, .int (x7_7)), (6, .int (x6_6)), (5, .int (x5_5)), (4, .int (x4_4)), (3, .int (x3_3)), (2, .int (x2_2)), (1, .int (x1_1)), (0, .ref (r (23)))]) C.1 C.2.1 dX8_compress_61 hl (by decide) rfl (fun ls hl => ?_)
  refine lv_iconst (v := 0) C.1 C.2.1 dX8_compress_63 (by decide) ?_
  refine lv_istore (lv' := [(9, .int 0), (8, .int (x8_8)), (7, .int (x7_7)), (6, .int (x6_6)), (5, .int (x5_5)), (4, .int (x4_4)), (3, .int (x3_3)), (2, .int (x2_2)), (1, .int (x1_1)), (0, .ref (r (23)))]) C.1 C.2.1 dX8_compress_64 hl (by decide) rfl (fun ls hl => ?_)
  have loop : ∀ (k t : Nat), t + k = 64 → ∀ (H : Heap) (locs : List Loc) (ls : Array Slot), mm_W D b0 r (M) s H locs → lv_has ls 15 [(9, .int (nI (t))), (8, .int ((f_X8_compress_L66 M ((x8_8), (x7_7), (x6_6), (x5_5), (x4_4), (x3_3), (x2_2), (x1_1)) t).1)), (7, .int ((f_X8_compress_L66 M ((x8_8), (x7_7), (x6_6), (x5_5), (x4_4), (x3_3), (x2_2), (x1_1)) t).2.1)), (6, .int ((f_X8_compress_L66 M ((x8_8), (x7_7), (x6_6), (x5_5), (x4_4), (x3_3), (x2_2), (x1_1)) t).2.2.1)), (5, .int ((f_X8_compress_L66 M ((x8_8), (x7_7), (x6_6), (x5_5), (x4_4), (x3_3), (x2_2), (x1_1)) t).2.2.2.1)), (4, .int ((f_X8_compress_L66 M ((x8_8), (x7_7), (x6_6), (x5_5), (x4_4), (x3_3), (x2_2), (x1_1)) t).2.2.2.2.1)), (3, .int ((f_X8_compress_L66 M ((x8_8), (x7_7), (x6_6), (x5_5), (x4_4), (x3_3), (x2_2), (x1_1)) t).2.2.2.2.2.1)), (2, .int ((f_X8_compress_L66 M ((x8_8), (x7_7), (x6_6), (x5_5), (x4_4), (x3_3), (x2_2), (x1_1)) t).2.2.2.2.2.2.1)), (1, .int ((f_X8_compress_L66 M ((x8_8), (x7_7), (x6_6), (x5_5), (x4_4), (x3_3), (x2_2), (x1_1)) t).2.2.2.2.2.2.2)), (0, .ref (r (23)))] → W p l e (mm_rm 1 21) s m args below meth c H locs 0 0 (MQ below (va_Qv (fun M' => M' = f_X8_compress  M) (mm_U D b0 r) (fun q => b0 ≤ q)) args s 0 0 (fun q => b0 ≤ q)) (F0 m 66 ls []) := by
    intro k
    induction k with
    | zero =>
      intro t ht H locs ls w hl
      obtain rfl : 64 = t := by omega
      obtain ⟨y_9, ey_9⟩ : ∃ zz, zz = (f_X8_compress_L66 M ((x8_8), (x7_7), (x6_6), (x5_5), (x4_4), (x3_3), (x2_2), (x1_1)) 64).1 := ⟨_, rfl⟩
      rw [← ey_9] at hl
      obtain ⟨y_10, ey_10⟩ : ∃ zz, zz = (f_X8_compress_L66 M ((x8_8), (x7_7), (x6_6), (x5_5), (x4_4), (x3_3), (x2_2), (x1_1)) 64).2.1 := ⟨_, rfl⟩
      rw [← ey_10] at hl
      obtain ⟨y_11, ey_11⟩ : ∃ zz, zz = (f_X8_compress_L66 M ((x8_8), (x7_7), (x6_6), (x5_5), (x4_4), (x3_3), (x2_2), (x1_1)) 64).2.2.1 := ⟨_, rfl⟩
      rw [← ey_11] at hl
      obtain ⟨y_12, ey_12⟩ : ∃ zz, zz = (f_X8_compress_L66 M ((x8_8), (x7_7), (x6_6), (x5_5), (x4_4), (x3_3), (x2_2), (x1_1)) 64).2.2.2.1 := ⟨_, rfl⟩
      rw [← ey_12] at hl
      obtain ⟨y_13, ey_13⟩ : ∃ zz, zz = (f_X8_compress_L66 M ((x8_8), (x7_7), (x6_6), (x5_5), (x4_4), (x3_3), (x2_2), (x1_1)) 64).2.2.2.2.1 := ⟨_, rfl⟩
      rw [← ey_13] at hl
      obtain ⟨y_14, ey_14⟩ : ∃ zz, zz = (f_X8_compress_L66 M ((x8_8), (x7_7), (x6_6), (x5_5), (x4_4), (x3_3), (x2_2), (x1_1)) 64).2.2.2.2.2.1 := ⟨_, rfl⟩
      rw [← ey_14] at hl
      obtain ⟨y_15, ey_15⟩ : ∃ zz, zz = (f_X8_compress_L66 M ((x8_8), (x7_7), (x6_6), (x5_5), (x4_4), (x3_3), (x2_2), (x1_1)) 64).2.2.2.2.2.2.1 := ⟨_, rfl⟩
      rw [← ey_15] at hl
      obtain ⟨y_16, ey_16⟩ : ∃ zz, zz = (f_X8_compress_L66 M ((x8_8), (x7_7), (x6_6), (x5_5), (x4_4), (x3_3), (x2_2), (x1_1)) 64).2.2.2.2.2.2.2 := ⟨_, rfl⟩
      rw [← ey_16] at hl
      refine lv_iload C.1 C.2.1 dX8_compress_66 (lv_at hl 0 rfl) ?_
      refine lv_bipush (v := 64) C.1 C.2.1 dX8_compress_68 (by decide) ?_
      refine m_icmp_ge (tgt := 213) (a := 64) (b := 64) C (by omega) (by omega) dX8_compress_70 (by decide) (fun _ => ?_) (fun h_17 => absurd h_17 (by omega))
      refine lv_aload_n C.1 C.2.1 dX8_compress_213 rfl (lv_at hl 9 rfl) ?_
      refine m_get C w (k := 23) (j := 0) (v := .ref (r (24))) flX8_7 (by decide) rfl rfl dX8_compress_214 ?_
      refine lv_iconst (v := 0) C.1 C.2.1 dX8_compress_217 (by decide) ?_
      refine lv_dup2_11 C.1 C.2.1 dX8_compress_218 rfl rfl ?_
      refine m_iald C w (k := 24) (i := 0) (n := 8) (wr := true) (by decide) rfl (by omega) (by decide) dX8_compress_219 ?_
      refine lv_iload_n C.1 C.2.1 dX8_compress_220 rfl (lv_at hl 8 rfl) ?_
      refine lv_iadd C.1 C.2.1 dX8_compress_221 ?_
      refine m_iast C w (k := 24) (i := 0) (n := 8) (x := ((M.1 24 0) + (y_16))) (by decide) rfl (by omega) (by decide) dX8_compress_222 (fun H locs w => ?_)
      obtain ⟨M_18, eM_18⟩ : ∃ zz, zz = mm_w M 24 0 ((M.1 24 0) + (y_16)) := ⟨_, rfl⟩
      rw [← eM_18] at w
      refine lv_aload_n C.1 C.2.1 dX8_compress_223 rfl (lv_at hl 9 rfl) ?_
      refine m_get C w (k := 23) (j := 0) (v := .ref (r (24))) flX8_7 (by decide) rfl rfl dX8_compress_224 ?_
      refine lv_iconst (v := 1) C.1 C.2.1 dX8_compress_227 (by decide) ?_
      refine lv_dup2_11 C.1 C.2.1 dX8_compress_228 rfl rfl ?_
      refine m_iald C w (k := 24) (i := 1) (n := 8) (wr := true) (by decide) rfl (by omega) (by decide) dX8_compress_229 ?_
      refine lv_iload_n C.1 C.2.1 dX8_compress_230 rfl (lv_at hl 7 rfl) ?_
      refine lv_iadd C.1 C.2.1 dX8_compress_231 ?_
      refine m_iast C w (k := 24) (i := 1) (n := 8) (x := ((M_18.1 24 1) + (y_15))) (by decide) rfl (by omega) (by decide) dX8_compress_232 (fun H locs w => ?_)
      obtain ⟨M_19, eM_19⟩ : ∃ zz, zz = mm_w M_18 24 1 ((M_18.1 24 1) + (y_15)) := ⟨_, rfl⟩
      rw [← eM_19] at w
      refine lv_aload_n C.1 C.2.1 dX8_compress_233 rfl (lv_at hl 9 rfl) ?_
      refine m_get C w (k := 23) (j := 0) (v := .ref (r (24))) flX8_7 (by decide) rfl rfl dX8_compress_234 ?_
      refine lv_iconst (v := 2) C.1 C.2.1 dX8_compress_237 (by decide) ?_
      refine lv_dup2_11 C.1 C.2.1 dX8_compress_238 rfl rfl ?_
      refine m_iald C w (k := 24) (i := 2) (n := 8) (wr := true) (by decide) rfl (by omega) (by decide) dX8_compress_239 ?_
      refine lv_iload_n C.1 C.2.1 dX8_compress_240 rfl (lv_at hl 6 rfl) ?_
      refine lv_iadd C.1 C.2.1 dX8_compress_241 ?_
      refine m_iast C w (k := 24) (i := 2) (n := 8) (x := ((M_19.1 24 2) + (y_14))) (by decide) rfl (by omega) (by decide) dX8_compress_242 (fun H locs w => ?_)
      obtain ⟨M_20, eM_20⟩ : ∃ zz, zz = mm_w M_19 24 2 ((M_19.1 24 2) + (y_14)) := ⟨_, rfl⟩
      rw [← eM_20] at w
      refine lv_aload_n C.1 C.2.1 dX8_compress_243 rfl (lv_at hl 9 rfl) ?_
      refine m_get C w (k := 23) (j := 0) (v := .ref (r (24))) flX8_7 (by decide) rfl rfl dX8_compress_244 ?_
      refine lv_iconst (v := 3) C.1 C.2.1 dX8_compress_247 (by decide) ?_
      refine lv_dup2_11 C.1 C.2.1 dX8_compress_248 rfl rfl ?_
      refine m_iald C w (k := 24) (i := 3) (n := 8) (wr := true) (by decide) rfl (by omega) (by decide) dX8_compress_249 ?_
      refine lv_iload C.1 C.2.1 dX8_compress_250 (lv_at hl 5 rfl) ?_
      refine lv_iadd C.1 C.2.1 dX8_compress_252 ?_
      refine m_iast C w (k := 24) (i := 3) (n := 8) (x := ((M_20.1 24 3) + (y_13))) (by decide) rfl (by omega) (by decide) dX8_compress_253 (fun H locs w => ?_)
      obtain ⟨M_21, eM_21⟩ : ∃ zz, zz = mm_w M_20 24 3 ((M_20.1 24 3) + (y_13)) := ⟨_, rfl⟩
      rw [← eM_21] at w
      refine lv_aload_n C.1 C.2.1 dX8_compress_254 rfl (lv_at hl 9 rfl) ?_
      refine m_get C w (k := 23) (j := 0) (v := .ref (r (24))) flX8_7 (by decide) rfl rfl dX8_compress_255 ?_
      refine lv_iconst (v := 4) C.1 C.2.1 dX8_compress_258 (by decide) ?_
      refine lv_dup2_11 C.1 C.2.1 dX8_compress_259 rfl rfl ?_
      refine m_iald C w (k := 24) (i := 4) (n := 8) (wr := true) (by decide) rfl (by omega) (by decide) dX8_compress_260 ?_
      refine lv_iload C.1 C.2.1 dX8_compress_261 (lv_at hl 4 rfl) ?_
      refine lv_iadd C.1 C.2.1 dX8_compress_263 ?_
      refine m_iast C w (k := 24) (i := 4) (n := 8) (x := ((M_21.1 24 4) + (y_12))) (by decide) rfl (by omega) (by decide) dX8_compress_264 (fun H locs w => ?_)
      obtain ⟨M_22, eM_22⟩ : ∃ zz, zz = mm_w M_21 24 4 ((M_21.1 24 4) + (y_12)) := ⟨_, rfl⟩
      rw [← eM_22] at w
      refine lv_aload_n C.1 C.2.1 dX8_compress_265 rfl (lv_at hl 9 rfl) ?_
      refine m_get C w (k := 23) (j := 0) (v := .ref (r (24))) flX8_7 (by decide) rfl rfl dX8_compress_266 ?_
      refine lv_iconst (v := 5) C.1 C.2.1 dX8_compress_269 (by decide) ?_
      refine lv_dup2_11 C.1 C.2.1 dX8_compress_270 rfl rfl ?_
      refine m_iald C w (k := 24) (i := 5) (n := 8) (wr := true) (by decide) rfl (by omega) (by decide) dX8_compress_271 ?_
      refine lv_iload C.1 C.2.1 dX8_compress_272 (lv_at hl 3 rfl) ?_
      refine lv_iadd C.1 C.2.1 dX8_compress_274 ?_
      refine m_iast C w (k := 24) (i := 5) (n := 8) (x := ((M_22.1 24 5) + (y_11))) (by decide) rfl (by omega) (by decide) dX8_compress_275 (fun H locs w => ?_)
      obtain ⟨M_23, eM_23⟩ : ∃ zz, zz = mm_w M_22 24 5 ((M_22.1 24 5) + (y_11)) := ⟨_, rfl⟩
      rw [← eM_23] at w
      refine lv_aload_n C.1 C.2.1 dX8_compress_276 rfl (lv_at hl 9 rfl) ?_
      refine m_get C w (k := 23) (j := 0) (v := .ref (r (24))) flX8_7 (by decide) rfl rfl dX8_compress_277 ?_
      refine lv_bipush (v := 6) C.1 C.2.1 dX8_compress_280 (by decide) ?_
      refine lv_dup2_11 C.1 C.2.1 dX8_compress_282 rfl rfl ?_
      refine m_iald C w (k := 24) (i := 6) (n := 8) (wr := true) (by decide) rfl (by omega) (by decide) dX8_compress_283 ?_
      refine lv_iload C.1 C.2.1 dX8_compress_284 (lv_at hl 2 rfl) ?_
      refine lv_iadd C.1 C.2.1 dX8_compress_286 ?_
      refine m_iast C w (k := 24) (i := 6) (n := 8) (x := ((M_23.1 24 6) + (y_10))) (by decide) rfl (by omega) (by decide) dX8_compress_287 (fun H locs w => ?_)
      obtain ⟨M_24, eM_24⟩ : ∃ zz, zz = mm_w M_23 24 6 ((M_23.1 24 6) + (y_10)) := ⟨_, rfl⟩
      rw [← eM_24] at w
      refine lv_aload_n C.1 C.2.1 dX8_compress_288 rfl (lv_at hl 9 rfl) ?_
      refine m_get C w (k := 23) (j := 0) (v := .ref (r (24))) flX8_7 (by decide) rfl rfl dX8_compress_289 ?_
      refine lv_bipush (v := 7) C.1 C.2.1 dX8_compress_292 (by decide) ?_
      refine lv_dup2_11 C.1 C.2.1 dX8_compress_294 rfl rfl ?_
      refine m_iald C w (k := 24) (i := 7) (n := 8) (wr := true) (by decide) rfl (by omega) (by decide) dX8_compress_295 ?_
      refine lv_iload C.1 C.2.1 dX8_compress_296 (lv_at hl 1 rfl) ?_
      refine lv_iadd C.1 C.2.1 dX8_compress_298 ?_
      refine m_iast C w (k := 24) (i := 7) (n := 8) (x := ((M_24.1 24 7) + (y_9))) (by decide) rfl (by omega) (by decide) dX8_compress_299 (fun H locs w => ?_)
      obtain ⟨M_25, eM_25⟩ : ∃ zz, zz = mm_w M_24 24 7 ((M_24.1 24 7) + (y_9)) := ⟨_, rfl⟩
      rw [← eM_25] at w
      exact m_vret C w (by subst ex1_1 ex2_2 ex3_3 ex4_4 ex5_5 ex6_6 ex7_7 ex8_8 ey_9 ey_10 ey_11 ey_12 ey_13 ey_14 ey_15 ey_16 eM_18 eM_19 eM_20 eM_21 eM_22 eM_23 eM_24 eM_25; exact Eq.symm (rfl)) dX8_compress_300
    | succ k ih =>
      intro t ht H locs ls w hl
      obtain ⟨y_26, ey_26⟩ : ∃ zz, zz = (f_X8_compress_L66 M ((x8_8), (x7_7), (x6_6), (x5_5), (x4_4), (x3_3), (x2_2), (x1_1)) t).1 := ⟨_, rfl⟩
      rw [← ey_26] at hl
      obtain ⟨y_27, ey_27⟩ : ∃ zz, zz = (f_X8_compress_L66 M ((x8_8), (x7_7), (x6_6), (x5_5), (x4_4), (x3_3), (x2_2), (x1_1)) t).2.1 := ⟨_, rfl⟩
      rw [← ey_27] at hl
      obtain ⟨y_28, ey_28⟩ : ∃ zz, zz = (f_X8_compress_L66 M ((x8_8), (x7_7), (x6_6), (x5_5), (x4_4), (x3_3), (x2_2), (x1_1)) t).2.2.1 := ⟨_, rfl⟩
      rw [← ey_28] at hl
      obtain ⟨y_29, ey_29⟩ : ∃ zz, zz = (f_X8_compress_L66 M ((x8_8), (x7_7), (x6_6), (x5_5), (x4_4), (x3_3), (x2_2), (x1_1)) t).2.2.2.1 := ⟨_, rfl⟩
      rw [← ey_29] at hl
      obtain ⟨y_30, ey_30⟩ : ∃ zz, zz = (f_X8_compress_L66 M ((x8_8), (x7_7), (x6_6), (x5_5), (x4_4), (x3_3), (x2_2), (x1_1)) t).2.2.2.2.1 := ⟨_, rfl⟩
      rw [← ey_30] at hl
      obtain ⟨y_31, ey_31⟩ : ∃ zz, zz = (f_X8_compress_L66 M ((x8_8), (x7_7), (x6_6), (x5_5), (x4_4), (x3_3), (x2_2), (x1_1)) t).2.2.2.2.2.1 := ⟨_, rfl⟩
      rw [← ey_31] at hl
      obtain ⟨y_32, ey_32⟩ : ∃ zz, zz = (f_X8_compress_L66 M ((x8_8), (x7_7), (x6_6), (x5_5), (x4_4), (x3_3), (x2_2), (x1_1)) t).2.2.2.2.2.2.1 := ⟨_, rfl⟩
      rw [← ey_32] at hl
      obtain ⟨y_33, ey_33⟩ : ∃ zz, zz = (f_X8_compress_L66 M ((x8_8), (x7_7), (x6_6), (x5_5), (x4_4), (x3_3), (x2_2), (x1_1)) t).2.2.2.2.2.2.2 := ⟨_, rfl⟩
      rw [← ey_33] at hl
      refine lv_iload C.1 C.2.1 dX8_compress_66 (lv_at hl 0 rfl) ?_
      refine lv_bipush (v := 64) C.1 C.2.1 dX8_compress_68 (by decide) ?_
      refine m_icmp_ge (tgt := 213) (a := t) (b := 64) C (by omega) (by omega) dX8_compress_70 (by decide) (fun h_34 => absurd h_34 (by omega)) (fun _ => ?_)
      refine lv_iload C.1 C.2.1 dX8_compress_73 (lv_at hl 4 rfl) ?_
      refine lv_bipush (v := 6) C.1 C.2.1 dX8_compress_75 (by decide) ?_
      refine m_csi C w hl csX8_59 (As := [.int (y_29), .int 6]) (rest := []) (c_J6_rotateRight_7cf53 l D b0 r M (y_29) (6 : Int32) ) rfl rfl (Nat.le_of_ble_eq_true rfl) ⟨Nat.le_of_ble_eq_true rfl, Nat.le_of_ble_eq_true rfl⟩ ⟨Nat.zero_le _, Nat.zero_le _⟩ dX8_compress_77 (fun v_35 M9 H locs e9 w => ?_)
      obtain ⟨ev_35, e9⟩ := e9
      rw [e9] at w
      subst ev_35
      refine lv_iload C.1 C.2.1 dX8_compress_80 (lv_at hl 4 rfl) ?_
      refine lv_bipush (v := 11) C.1 C.2.1 dX8_compress_82 (by decide) ?_
      refine m_csi C w hl csX8_59 (As := [.int (y_29), .int 11]) (rest := [.int (f_J6_rotateRight_7cf53 (y_29) (6 : Int32))]) (c_J6_rotateRight_7cf53 l D b0 r M (y_29) (11 : Int32) ) rfl rfl (Nat.le_of_ble_eq_true rfl) ⟨Nat.le_of_ble_eq_true rfl, Nat.le_of_ble_eq_true rfl⟩ ⟨Nat.zero_le _, Nat.zero_le _⟩ dX8_compress_84 (fun v_36 M9 H locs e9 w => ?_)
      obtain ⟨ev_36, e9⟩ := e9
      rw [e9] at w
      subst ev_36
      refine lv_ixor C.1 C.2.1 dX8_compress_87 ?_
      refine lv_iload C.1 C.2.1 dX8_compress_88 (lv_at hl 4 rfl) ?_
      refine lv_bipush (v := 25) C.1 C.2.1 dX8_compress_90 (by decide) ?_
      refine m_csi C w hl csX8_59 (As := [.int (y_29), .int 25]) (rest := [.int ((f_J6_rotateRight_7cf53 (y_29) (6 : Int32)) ^^^ (f_J6_rotateRight_7cf53 (y_29) (11 : Int32)))]) (c_J6_rotateRight_7cf53 l D b0 r M (y_29) (25 : Int32) ) rfl rfl (Nat.le_of_ble_eq_true rfl) ⟨Nat.le_of_ble_eq_true rfl, Nat.le_of_ble_eq_true rfl⟩ ⟨Nat.zero_le _, Nat.zero_le _⟩ dX8_compress_92 (fun v_37 M9 H locs e9 w => ?_)
      obtain ⟨ev_37, e9⟩ := e9
      rw [e9] at w
      subst ev_37
      refine lv_ixor C.1 C.2.1 dX8_compress_95 ?_
      refine lv_topi (fun x10_38 ex10_38 => ?_)
      refine lv_istore (lv' := [(10, .int (x10_38)), (9, .int (nI (t))), (8, .int (y_26)), (7, .int (y_27)), (6, .int (y_28)), (5, .int (y_29)), (4, .int (y_30)), (3, .int (y_31)), (2, .int (y_32)), (1, .int (y_33)), (0, .ref (r (23)))]) C.1 C.2.1 dX8_compress_96 hl (by decide) rfl (fun ls hl => ?_)
      refine lv_iload C.1 C.2.1 dX8_compress_98 (lv_at hl 5 rfl) ?_
      refine lv_iload C.1 C.2.1 dX8_compress_100 (lv_at hl 4 rfl) ?_
      refine lv_iand C.1 C.2.1 dX8_compress_102 ?_
      refine lv_iload C.1 C.2.1 dX8_compress_103 (lv_at hl 5 rfl) ?_
      refine lv_iconst (v := (-1)) C.1 C.2.1 dX8_compress_105 (by decide) ?_
      refine lv_ixor C.1 C.2.1 dX8_compress_106 ?_
      refine lv_iload C.1 C.2.1 dX8_compress_107 (lv_at hl 3 rfl) ?_
      refine lv_iand C.1 C.2.1 dX8_compress_109 ?_
      refine lv_ixor C.1 C.2.1 dX8_compress_110 ?_
      refine lv_topi (fun x11_39 ex11_39 => ?_)
      refine lv_istore (lv' := [(11, .int (x11_39)), (10, .int (x10_38)), (9, .int (nI (t))), (8, .int (y_26)), (7, .int (y_27)), (6, .int (y_28)), (5, .int (y_29)), (4, .int (y_30)), (3, .int (y_31)), (2, .int (y_32)), (1, .int (y_33)), (0, .ref (r (23)))]) C.1 C.2.1 dX8_compress_111 hl (by decide) rfl (fun ls hl => ?_)
      refine lv_iload C.1 C.2.1 dX8_compress_113 (lv_at hl 3 rfl) ?_
      refine lv_iload C.1 C.2.1 dX8_compress_115 (lv_at hl 1 rfl) ?_
      refine lv_iadd C.1 C.2.1 dX8_compress_117 ?_
      refine lv_iload C.1 C.2.1 dX8_compress_118 (lv_at hl 0 rfl) ?_
      refine lv_iadd C.1 C.2.1 dX8_compress_120 ?_
      refine m_gets C w C.2.2.2.2.2.2.2.1.2.2.2.1 fsX8_65 dX8_compress_121 ?_
      refine lv_iload C.1 C.2.1 dX8_compress_124 (lv_at hl 2 rfl) ?_
      refine m_iald C w (k := 176) (i := t) (n := 64) (wr := false) (by decide) rfl (by omega) (by decide) dX8_compress_126 ?_
      refine lv_iadd C.1 C.2.1 dX8_compress_127 ?_
      refine lv_aload_n C.1 C.2.1 dX8_compress_128 rfl (lv_at hl 11 rfl) ?_
      refine m_get C w (k := 23) (j := 1) (v := .ref (r (25))) flX8_13 (by decide) rfl rfl dX8_compress_129 ?_
      refine lv_iload C.1 C.2.1 dX8_compress_132 (lv_at hl 2 rfl) ?_
      refine m_iald C w (k := 25) (i := t) (n := 64) (wr := true) (by decide) rfl (by omega) (by decide) dX8_compress_134 ?_
      refine lv_iadd C.1 C.2.1 dX8_compress_135 ?_
      refine lv_topi (fun x12_40 ex12_40 => ?_)
      refine lv_istore (lv' := [(12, .int (x12_40)), (11, .int (x11_39)), (10, .int (x10_38)), (9, .int (nI (t))), (8, .int (y_26)), (7, .int (y_27)), (6, .int (y_28)), (5, .int (y_29)), (4, .int (y_30)), (3, .int (y_31)), (2, .int (y_32)), (1, .int (y_33)), (0, .ref (r (23)))]) C.1 C.2.1 dX8_compress_136 hl (by decide) rfl (fun ls hl => ?_)
      refine lv_iload_n C.1 C.2.1 dX8_compress_138 rfl (lv_at hl 11 rfl) ?_
      refine lv_iconst (v := 2) C.1 C.2.1 dX8_compress_139 (by decide) ?_
      refine m_csi C w hl csX8_59 (As := [.int (y_33), .int 2]) (rest := []) (c_J6_rotateRight_7cf53 l D b0 r M (y_33) (2 : Int32) ) rfl rfl (Nat.le_of_ble_eq_true rfl) ⟨Nat.le_of_ble_eq_true rfl, Nat.le_of_ble_eq_true rfl⟩ ⟨Nat.zero_le _, Nat.zero_le _⟩ dX8_compress_140 (fun v_41 M9 H locs e9 w => ?_)
      obtain ⟨ev_41, e9⟩ := e9
      rw [e9] at w
      subst ev_41
      refine lv_iload_n C.1 C.2.1 dX8_compress_143 rfl (lv_at hl 11 rfl) ?_
      refine lv_bipush (v := 13) C.1 C.2.1 dX8_compress_144 (by decide) ?_
      refine m_csi C w hl csX8_59 (As := [.int (y_33), .int 13]) (rest := [.int (f_J6_rotateRight_7cf53 (y_33) (2 : Int32))]) (c_J6_rotateRight_7cf53 l D b0 r M (y_33) (13 : Int32) ) rfl rfl (Nat.le_of_ble_eq_true rfl) ⟨Nat.le_of_ble_eq_true rfl, Nat.le_of_ble_eq_true rfl⟩ ⟨Nat.zero_le _, Nat.zero_le _⟩ dX8_compress_146 (fun v_42 M9 H locs e9 w => ?_)
      obtain ⟨ev_42, e9⟩ := e9
      rw [e9] at w
      subst ev_42
      refine lv_ixor C.1 C.2.1 dX8_compress_149 ?_
      refine lv_iload_n C.1 C.2.1 dX8_compress_150 rfl (lv_at hl 11 rfl) ?_
      refine lv_bipush (v := 22) C.1 C.2.1 dX8_compress_151 (by decide) ?_
      refine m_csi C w hl csX8_59 (As := [.int (y_33), .int 22]) (rest := [.int ((f_J6_rotateRight_7cf53 (y_33) (2 : Int32)) ^^^ (f_J6_rotateRight_7cf53 (y_33) (13 : Int32)))]) (c_J6_rotateRight_7cf53 l D b0 r M (y_33) (22 : Int32) ) rfl rfl (Nat.le_of_ble_eq_true rfl) ⟨Nat.le_of_ble_eq_true rfl, Nat.le_of_ble_eq_true rfl⟩ ⟨Nat.zero_le _, Nat.zero_le _⟩ dX8_compress_153 (fun v_43 M9 H locs e9 w => ?_)
      obtain ⟨ev_43, e9⟩ := e9
      rw [e9] at w
      subst ev_43
      refine lv_ixor C.1 C.2.1 dX8_compress_156 ?_
      refine lv_topi (fun x13_44 ex13_44 => ?_)
      refine lv_istore (lv' := [(13, .int (x13_44)), (12, .int (x12_40)), (11, .int (x11_39)), (10, .int (x10_38)), (9, .int (nI (t))), (8, .int (y_26)), (7, .int (y_27)), (6, .int (y_28)), (5, .int (y_29)), (4, .int (y_30)), (3, .int (y_31)), (2, .int (y_32)), (1, .int (y_33)), (0, .ref (r (23)))]) C.1 C.2.1 dX8_compress_157 hl (by decide) rfl (fun ls hl => ?_)
      refine lv_iload_n C.1 C.2.1 dX8_compress_159 rfl (lv_at hl 12 rfl) ?_
      refine lv_iload_n C.1 C.2.1 dX8_compress_160 rfl (lv_at hl 11 rfl) ?_
      refine lv_iand C.1 C.2.1 dX8_compress_161 ?_
      refine lv_iload_n C.1 C.2.1 dX8_compress_162 rfl (lv_at hl 12 rfl) ?_
      refine lv_iload_n C.1 C.2.1 dX8_compress_163 rfl (lv_at hl 10 rfl) ?_
      refine lv_iand C.1 C.2.1 dX8_compress_164 ?_
      refine lv_ixor C.1 C.2.1 dX8_compress_165 ?_
      refine lv_iload_n C.1 C.2.1 dX8_compress_166 rfl (lv_at hl 11 rfl) ?_
      refine lv_iload_n C.1 C.2.1 dX8_compress_167 rfl (lv_at hl 10 rfl) ?_
      refine lv_iand C.1 C.2.1 dX8_compress_168 ?_
      refine lv_ixor C.1 C.2.1 dX8_compress_169 ?_
      refine lv_topi (fun x14_45 ex14_45 => ?_)
      refine lv_istore (lv' := [(14, .int (x14_45)), (13, .int (x13_44)), (12, .int (x12_40)), (11, .int (x11_39)), (10, .int (x10_38)), (9, .int (nI (t))), (8, .int (y_26)), (7, .int (y_27)), (6, .int (y_28)), (5, .int (y_29)), (4, .int (y_30)), (3, .int (y_31)), (2, .int (y_32)), (1, .int (y_33)), (0, .ref (r (23)))]) C.1 C.2.1 dX8_compress_170 hl (by decide) rfl (fun ls hl => ?_)
      refine lv_iload C.1 C.2.1 dX8_compress_172 (lv_at hl 7 rfl) ?_
      refine lv_istore (lv' := [(8, .int (y_27)), (14, .int (x14_45)), (13, .int (x13_44)), (12, .int (x12_40)), (11, .int (x11_39)), (10, .int (x10_38)), (9, .int (nI (t))), (7, .int (y_27)), (6, .int (y_28)), (5, .int (y_29)), (4, .int (y_30)), (3, .int (y_31)), (2, .int (y_32)), (1, .int (y_33)), (0, .ref (r (23)))]) C.1 C.2.1 dX8_compress_174 hl (by decide) rfl (fun ls hl => ?_)
      refine lv_iload C.1 C.2.1 dX8_compress_176 (lv_at hl 8 rfl) ?_
      refine lv_istore (lv' := [(7, .int (y_28)), (8, .int (y_27)), (14, .int (x14_45)), (13, .int (x13_44)), (12, .int (x12_40)), (11, .int (x11_39)), (10, .int (x10_38)), (9, .int (nI (t))), (6, .int (y_28)), (5, .int (y_29)), (4, .int (y_30)), (3, .int (y_31)), (2, .int (y_32)), (1, .int (y_33)), (0, .ref (r (23)))]) C.1 C.2.1 dX8_compress_178 hl (by decide) rfl (fun ls hl => ?_)
      refine lv_iload C.1 C.2.1 dX8_compress_180 (lv_at hl 9 rfl) ?_
      refine lv_istore (lv' := [(6, .int (y_29)), (7, .int (y_28)), (8, .int (y_27)), (14, .int (x14_45)), (13, .int (x13_44)), (12, .int (x12_40)), (11, .int (x11_39)), (10, .int (x10_38)), (9, .int (nI (t))), (5, .int (y_29)), (4, .int (y_30)), (3, .int (y_31)), (2, .int (y_32)), (1, .int (y_33)), (0, .ref (r (23)))]) C.1 C.2.1 dX8_compress_182 hl (by decide) rfl (fun ls hl => ?_)
      refine lv_iload C.1 C.2.1 dX8_compress_184 (lv_at hl 10 rfl) ?_
      refine lv_iload C.1 C.2.1 dX8_compress_186 (lv_at hl 5 rfl) ?_
      refine lv_iadd C.1 C.2.1 dX8_compress_188 ?_
      refine lv_topi (fun x5_46 ex5_46 => ?_)
      refine lv_istore (lv' := [(5, .int (x5_46)), (6, .int (y_29)), (7, .int (y_28)), (8, .int (y_27)), (14, .int (x14_45)), (13, .int (x13_44)), (12, .int (x12_40)), (11, .int (x11_39)), (10, .int (x10_38)), (9, .int (nI (t))), (4, .int (y_30)), (3, .int (y_31)), (2, .int (y_32)), (1, .int (y_33)), (0, .ref (r (23)))]) C.1 C.2.1 dX8_compress_189 hl (by decide) rfl (fun ls hl => ?_)
      refine lv_iload_n C.1 C.2.1 dX8_compress_191 rfl (lv_at hl 11 rfl) ?_
      refine lv_istore (lv' := [(4, .int (y_31)), (5, .int (x5_46)), (6, .int (y_29)), (7, .int (y_28)), (8, .int (y_27)), (14, .int (x14_45)), (13, .int (x13_44)), (12, .int (x12_40)), (11, .int (x11_39)), (10, .int (x10_38)), (9, .int (nI (t))), (3, .int (y_31)), (2, .int (y_32)), (1, .int (y_33)), (0, .ref (r (23)))]) C.1 C.2.1 dX8_compress_192 hl (by decide) rfl (fun ls hl => ?_)
      refine lv_iload_n C.1 C.2.1 dX8_compress_194 rfl (lv_at hl 12 rfl) ?_
      refine lv_istore_n (lv' := [(3, .int (y_32)), (4, .int (y_31)), (5, .int (x5_46)), (6, .int (y_29)), (7, .int (y_28)), (8, .int (y_27)), (14, .int (x14_45)), (13, .int (x13_44)), (12, .int (x12_40)), (11, .int (x11_39)), (10, .int (x10_38)), (9, .int (nI (t))), (2, .int (y_32)), (1, .int (y_33)), (0, .ref (r (23)))]) C.1 C.2.1 dX8_compress_195 rfl hl (by decide) rfl (fun ls hl => ?_)
      refine lv_iload_n C.1 C.2.1 dX8_compress_196 rfl (lv_at hl 13 rfl) ?_
      refine lv_istore_n (lv' := [(2, .int (y_33)), (3, .int (y_32)), (4, .int (y_31)), (5, .int (x5_46)), (6, .int (y_29)), (7, .int (y_28)), (8, .int (y_27)), (14, .int (x14_45)), (13, .int (x13_44)), (12, .int (x12_40)), (11, .int (x11_39)), (10, .int (x10_38)), (9, .int (nI (t))), (1, .int (y_33)), (0, .ref (r (23)))]) C.1 C.2.1 dX8_compress_197 rfl hl (by decide) rfl (fun ls hl => ?_)
      refine lv_iload C.1 C.2.1 dX8_compress_198 (lv_at hl 9 rfl) ?_
      refine lv_iload C.1 C.2.1 dX8_compress_200 (lv_at hl 8 rfl) ?_
      refine lv_iadd C.1 C.2.1 dX8_compress_202 ?_
      refine lv_iload C.1 C.2.1 dX8_compress_203 (lv_at hl 7 rfl) ?_
      refine lv_iadd C.1 C.2.1 dX8_compress_205 ?_
      refine lv_topi (fun x1_47 ex1_47 => ?_)
      refine lv_istore_n (lv' := [(1, .int (x1_47)), (2, .int (y_33)), (3, .int (y_32)), (4, .int (y_31)), (5, .int (x5_46)), (6, .int (y_29)), (7, .int (y_28)), (8, .int (y_27)), (14, .int (x14_45)), (13, .int (x13_44)), (12, .int (x12_40)), (11, .int (x11_39)), (10, .int (x10_38)), (9, .int (nI (t))), (0, .ref (r (23)))]) C.1 C.2.1 dX8_compress_206 rfl hl (by decide) rfl (fun ls hl => ?_)
      refine lv_iinc (v := (nI (t + 1))) (lv' := [(9, .int (nI (t + 1))), (1, .int (x1_47)), (2, .int (y_33)), (3, .int (y_32)), (4, .int (y_31)), (5, .int (x5_46)), (6, .int (y_29)), (7, .int (y_28)), (8, .int (y_27)), (14, .int (x14_45)), (13, .int (x13_44)), (12, .int (x12_40)), (11, .int (x11_39)), (10, .int (x10_38)), (0, .ref (r (23)))]) C.1 C.2.1 dX8_compress_207 hl (k := 13) rfl (nI_add t 1) (by decide) rfl (fun ls hl => ?_)
      refine lv_goto (tgt := 66) C.1 C.2.1 dX8_compress_210 (by decide) ?_
      have h9 : lv_has ls 15 [(9, .int (nI (t + 1))), (8, .int (y_27)), (7, .int (y_28)), (6, .int (y_29)), (5, .int (x5_46)), (4, .int (y_31)), (3, .int (y_32)), (2, .int (y_33)), (1, .int (x1_47)), (0, .ref (r (23)))] := lv_sub hl [0, 8, 7, 6, 5, 4, 3, 2, 1, 14] rfl
      have hlZ : lv_has ls 15 [(9, .int (nI (t + 1))), (8, .int (y_27)), (7, .int (y_28)), (6, .int (y_29)), (5, .int (x5_46)), (4, .int (y_31)), (3, .int (y_32)), (2, .int (y_33)), (1, .int (x1_47)), (0, .ref (r (23)))] := h9
      have wZ := w
      subst ey_26 ey_27 ey_28 ey_29 ey_30 ey_31 ey_32 ey_33 ex10_38 ex11_39 ex12_40 ex13_44 ex14_45 ex5_46 ex1_47
      refine ih (t + 1) (by omega) _ _ _ (wZ) ?_
      exact hlZ
  exact loop 64 0 (by omega) _ _ ls w hl
