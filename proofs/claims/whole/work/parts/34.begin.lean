def f_X10_initialize_L2 (y : Nat) (σ : mm_M) : Nat → mm_M
  | 0 => σ
  | t + 1 =>
  let M_4 := f_X10_initialize_L2 y σ t
  let M_6 := mm_w M_4 (y + 1) t (mm_b (mm_ch t))
  let M_8 := mm_w M_6 (y + 2) t (M_6.1 (y + 1) t)
  M_8
theorem w_f_X10_initialize_L2 (y : Nat) (σ : mm_M) : ∀ t : Nat, mm_fr [y + 1, y + 2] σ (f_X10_initialize_L2 y σ t)
  | 0 => mm_fr_refl _ _
  | t + 1 => have ih := w_f_X10_initialize_L2 y σ t
    (mm_fr_w (by simp) (mm_fr_w (by simp) ih))
def f_X10_initialize (y : Nat) (M : mm_M) : mm_M :=
  let M_1 := f_X10_initialize_L2 y M 32
  let M_3 := f_X3_forgetKey (y + 3) M_1
  M_3
theorem w_f_X10_initialize (y : Nat) (M : mm_M) : mm_fr [(y + 3), y + 1, y + 2] M (f_X10_initialize y M) := by
  unfold f_X10_initialize
  exact ((w_f_X3_forgetKey _ _).on (by simp) ((w_f_X10_initialize_L2 _ _ 32).on (by simp) (mm_fr_refl _ _)))
set_option maxHeartbeats 4000000 in
set_option maxRecDepth 100000 in
theorem c_X10_initialize (l : Launch) (D : va_G) (b0 : Nat) (r : Nat → Nat) (M : mm_M) (y : Nat) (hy : mm_sym y) : mm_Mv l yX10_initialize cX10_initialize 2 4 85 D b0 r [.ref (r (y))] M (fun M' => M' = f_X10_initialize y M) := by
  refine mm_enter (cc := cX10_initialize) (nL := 2) (ret := none) (by decide) (Nat.le_of_ble_eq_true rfl) ?_
  intro p e s m args below meth c C w ls hl
  have hl : lv_has ls 2 [(0, .ref (r (y)))] := hl
  refine lv_iconst (v := 0) C.1 C.2.1 dX10_initialize_0 (by decide) ?_
  refine lv_istore_n (lv' := [(1, .int 0), (0, .ref (r (y)))]) C.1 C.2.1 dX10_initialize_1 rfl hl (by decide) rfl (fun ls hl => ?_)
  have loop : ∀ (k t : Nat), t + k = 32 → ∀ (H : Heap) (locs : List Loc) (ls : Array Slot), mm_W D b0 r (f_X10_initialize_L2 y M t) s H locs → lv_has ls 2 [(1, .int (nI (t))), (0, .ref (r (y)))] → W p l e (mm_rm 4 85) s m args below meth c H locs 0 0 (MQ below (va_Qv (fun M' => M' = f_X10_initialize y M) (mm_U D b0 r) (fun q => b0 ≤ q)) args s 0 0 (fun q => b0 ≤ q)) (F0 m 2 ls []) := by
    intro k
    induction k with
    | zero =>
      intro t ht H locs ls w hl
      obtain rfl : 32 = t := by omega
      obtain ⟨M_1, eM_1⟩ : ∃ zz, zz = f_X10_initialize_L2 y M 32 := ⟨_, rfl⟩
      rw [← eM_1] at w
      refine lv_iload_n C.1 C.2.1 dX10_initialize_2 rfl (lv_at hl 0 rfl) ?_
      refine lv_bipush (v := 32) C.1 C.2.1 dX10_initialize_3 (by decide) ?_
      refine m_icmp_ge (tgt := 39) (a := 32) (b := 32) C (by omega) (by omega) dX10_initialize_5 (by decide) (fun _ => ?_) (fun h_2 => absurd h_2 (by omega))
      refine lv_aload_n C.1 C.2.1 dX10_initialize_39 rfl (lv_at hl 1 rfl) ?_
      refine m_get C w (k := y) (j := 2) (v := .ref (r (y + 3))) flX10_29 (by have := hy.1; omega) hy.2.1 (mm_v3 hy.2.2.2.2.2.2.2.1) dX10_initialize_40 ?_
      refine m_cvv C w hl cvX10_51 (k := y + 3) (by have := hy.2.2.2.2.1.1; omega) hy.2.2.2.2.1.2.1 (q := (RX3, TX3, 5)) rfl rfl (As := []) (rest := []) (c_X3_forgetKey l D b0 r M_1 (y + 3) hy.2.2.2.2.1) rfl rfl (Nat.le_of_ble_eq_true rfl) ⟨Nat.le_of_ble_eq_true rfl, Nat.le_of_ble_eq_true rfl⟩ ⟨Nat.zero_le _, Nat.zero_le _⟩ dX10_initialize_43 (fun M_3 H locs eM_3 w => ?_)
      exact m_vret C w (by subst eM_1 eM_3; exact Eq.symm (rfl)) dX10_initialize_46
    | succ k ih =>
      intro t ht H locs ls w hl
      obtain ⟨M_4, eM_4⟩ : ∃ zz, zz = f_X10_initialize_L2 y M t := ⟨_, rfl⟩
      rw [← eM_4] at w
      refine lv_iload_n C.1 C.2.1 dX10_initialize_2 rfl (lv_at hl 0 rfl) ?_
      refine lv_bipush (v := 32) C.1 C.2.1 dX10_initialize_3 (by decide) ?_
      refine m_icmp_ge (tgt := 39) (a := t) (b := 32) C (by omega) (by omega) dX10_initialize_5 (by decide) (fun h_5 => absurd h_5 (by omega)) (fun _ => ?_)
      refine lv_aload_n C.1 C.2.1 dX10_initialize_8 rfl (lv_at hl 1 rfl) ?_
      refine m_get C w (k := y) (j := 0) (v := .ref (r (y + 1))) flX10_9 (by have := hy.1; omega) hy.2.1 (mm_v3 hy.2.2.2.2.2.1) dX10_initialize_9 ?_
      refine lv_iload_n C.1 C.2.1 dX10_initialize_12 rfl (lv_at hl 0 rfl) ?_
      refine va_ldcS C.1 C.2.1 C.2.2.2.1 C.2.2.2.2.2.2.2.2.2.2.2.2.1 dX10_initialize_13 ?_
      refine lv_iload_n C.1 C.2.1 dX10_initialize_15 rfl (lv_at hl 0 rfl) ?_
      refine m_charAt C w hl cvX10_45 (i := t) (by omega) (Nat.le_of_ble_eq_true rfl) ⟨Nat.le_of_ble_eq_true rfl, Nat.le_of_ble_eq_true rfl⟩ ⟨Nat.zero_le _, Nat.zero_le _⟩ dX10_initialize_16 (fun H locs w => ?_)
      refine lv_i2b (v := mm_b (mm_ch t)) C.1 C.2.1 dX10_initialize_19 rfl ?_
      refine m_bast C w (k := y + 1) (i := t) (n := 32) (x := (mm_b (mm_ch t))) (by have := hy.1; omega) hy.2.2.1 (by omega) (by decide) (mm_bb _) dX10_initialize_20 (fun H locs w => ?_)
      obtain ⟨M_6, eM_6⟩ : ∃ zz, zz = mm_w M_4 (y + 1) t (mm_b (mm_ch t)) := ⟨_, rfl⟩
      rw [← eM_6] at w
      refine lv_aload_n C.1 C.2.1 dX10_initialize_21 rfl (lv_at hl 1 rfl) ?_
      refine m_get C w (k := y) (j := 1) (v := .ref (r (y + 2))) flX10_15 (by have := hy.1; omega) hy.2.1 (mm_v3 hy.2.2.2.2.2.2.1) dX10_initialize_22 ?_
      refine lv_iload_n C.1 C.2.1 dX10_initialize_25 rfl (lv_at hl 0 rfl) ?_
      refine lv_aload_n C.1 C.2.1 dX10_initialize_26 rfl (lv_at hl 1 rfl) ?_
      refine m_get C w (k := y) (j := 0) (v := .ref (r (y + 1))) flX10_9 (by have := hy.1; omega) hy.2.1 (mm_v3 hy.2.2.2.2.2.1) dX10_initialize_27 ?_
      refine lv_iload_n C.1 C.2.1 dX10_initialize_30 rfl (lv_at hl 0 rfl) ?_
      have hb_7 := w.1.byte (k := y + 1) (j := t) (by have := hy.1; omega) hy.2.2.1 (by omega)
      refine m_bald C w (k := y + 1) (i := t) (n := 32) (wr := true) (by have := hy.1; omega) hy.2.2.1 (by omega) (by decide) dX10_initialize_31 ?_
      refine m_bast C w (k := y + 2) (i := t) (n := 32) (x := (M_6.1 (y + 1) t)) (by have := hy.1; omega) hy.2.2.2.1 (by omega) (by decide) hb_7 dX10_initialize_32 (fun H locs w => ?_)
      obtain ⟨M_8, eM_8⟩ : ∃ zz, zz = mm_w M_6 (y + 2) t (M_6.1 (y + 1) t) := ⟨_, rfl⟩
      rw [← eM_8] at w
      refine lv_iinc (v := (nI (t + 1))) (lv' := [(1, .int (nI (t + 1))), (0, .ref (r (y)))]) C.1 C.2.1 dX10_initialize_33 hl (k := 0) rfl (nI_add t 1) (by decide) rfl (fun ls hl => ?_)
      refine lv_goto (tgt := 2) C.1 C.2.1 dX10_initialize_36 (by decide) ?_
      have h9 : lv_has ls 2 [(1, .int (nI (t + 1))), (0, .ref (r (y)))] := lv_sub hl [0, 1] rfl
      have hlZ : lv_has ls 2 [(1, .int (nI (t + 1))), (0, .ref (r (y)))] := h9
      have wZ := w
      subst eM_4 eM_6 eM_8
      refine ih (t + 1) (by omega) _ _ _ (wZ) ?_
      exact hlZ
  exact loop 32 0 (by omega) _ _ ls w hl

def f_X7_begin (x : Nat) (v1 : Int32) (k1 : Nat) (k2 : Nat) (p1 : Nat) (M : mm_M) : mm_M :=
  let M_1 := mm_w M x 9 (v1)
  let M_2 := mm_w M_1 x 10 (0 : Int32)
  let M_3 := mm_w M_2 x 11 (0 : Int32)
  let M_4 := mm_cp M_3 k1 0 (x + 1) 0 32
  let M_5 := mm_cp M_4 k2 0 (x + 2) 0 32
  let M_6 := f_X3_forgetKey (x + 11) M_5
  let M_7 := f_X3_forgetKey (x + 14) M_6
  let M_8 := f_X10_initialize (x + 5) M_7
  let M_9 := f_X10_mixHash (x + 5) 1 0 p1 M_8
  M_9
theorem w_f_X7_begin (x : Nat) (v1 : Int32) (k1 : Nat) (k2 : Nat) (p1 : Nat) (M : mm_M) : mm_fr [x, x + 1, x + 2, (x + 11), (x + 14), ((x + 5) + 3), x + 6, x + 7, 24, 23, 26, 25, ((x + 5) + 1)] M (f_X7_begin x v1 k1 k2 p1 M) := by
  unfold f_X7_begin
  exact ((w_f_X10_mixHash _ _ _ _ _).on (by simp) ((w_f_X10_initialize _ _).on (by simp) ((w_f_X3_forgetKey _ _).on (by simp) ((w_f_X3_forgetKey _ _).on (by simp) (mm_fr_cp (by simp) (mm_fr_cp (by simp) (mm_fr_w (by simp) (mm_fr_w (by simp) (mm_fr_w (by simp) (mm_fr_refl _ _))))))))))
set_option maxHeartbeats 4000000 in
set_option maxRecDepth 100000 in
theorem c_X7_begin (l : Launch) (D : va_G) (b0 : Nat) (r : Nat → Nat) (M : mm_M) (x : Nat) (v1 : Int32) (k1 : Nat) (k2 : Nat) (p1 : Nat) (hx : mm_ses x) (hb : v1 = 0 ∨ v1 = 1) {n1 : Nat} {w1 : Bool} (hk1 : k1 < 181) (hs1 : mm_sh k1 = .inl (.byte, n1, w1)) (hn1 : n1 < 2 ^ 31) (hp1 : 32 ≤ n1) {n2 : Nat} {w2 : Bool} (hk2 : k2 < 181) (hs2 : mm_sh k2 = .inl (.byte, n2, w2)) (hn2 : n2 < 2 ^ 31) (hp2 : 32 ≤ n2) (hp3 : p1 ≤ 1000) : mm_Mv l yX7_begin cX7_begin 6 5 106 D b0 r [.ref (r (x)), .int (v1), .ref (r (k1)), .ref (r (k2)), .ref (r (1)), .int (nI (p1))] M (fun M' => M' = f_X7_begin x v1 k1 k2 p1 M) := by
  refine mm_enter (cc := cX7_begin) (nL := 6) (ret := none) (by decide) (Nat.le_of_ble_eq_true rfl) ?_
  intro p e s m args below meth c C w ls hl
  have hl : lv_has ls 6 [(0, .ref (r (x))), (1, .int (v1)), (2, .ref (r (k1))), (3, .ref (r (k2))), (4, .ref (r (1))), (5, .int (nI (p1)))] := hl
  refine lv_aload_n C.1 C.2.1 dX7_begin_0 rfl (lv_at hl 0 rfl) ?_
  refine lv_iload_n C.1 C.2.1 dX7_begin_1 rfl (lv_at hl 1 rfl) ?_
  refine m_putz C w (k := x) (j := 9) (x := (v1)) flX7_24w (by have := hx.1; omega) hx.2.2.1 hx.2.2.2.2.2.2.2.2.2.2.2.2.2.2.2.2.1 hb dX7_begin_2 (fun H locs w => ?_)
  obtain ⟨M_1, eM_1⟩ : ∃ zz, zz = mm_w M x 9 (v1) := ⟨_, rfl⟩
  rw [← eM_1] at w
  refine lv_aload_n C.1 C.2.1 dX7_begin_5 rfl (lv_at hl 0 rfl) ?_
  refine lv_iconst (v := 0) C.1 C.2.1 dX7_begin_6 (by decide) ?_
  refine m_puti C w (k := x) (j := 10) (x := (0 : Int32)) rfl flX7_28w (by have := hx.1; omega) hx.2.2.1 hx.2.2.2.2.2.2.2.2.2.2.2.2.2.2.2.2.2.1 dX7_begin_7 (fun H locs w => ?_)
  obtain ⟨M_2, eM_2⟩ : ∃ zz, zz = mm_w M_1 x 10 (0 : Int32) := ⟨_, rfl⟩
  rw [← eM_2] at w
  refine lv_aload_n C.1 C.2.1 dX7_begin_10 rfl (lv_at hl 0 rfl) ?_
  refine lv_iconst (v := 0) C.1 C.2.1 dX7_begin_11 (by decide) ?_
  refine m_puti C w (k := x) (j := 11) (x := (0 : Int32)) rfl flX7_32w (by have := hx.1; omega) hx.2.2.1 hx.2.2.2.2.2.2.2.2.2.2.2.2.2.2.2.2.2.2 dX7_begin_12 (fun H locs w => ?_)
  obtain ⟨M_3, eM_3⟩ : ∃ zz, zz = mm_w M_2 x 11 (0 : Int32) := ⟨_, rfl⟩
  rw [← eM_3] at w
  refine lv_aload_n C.1 C.2.1 dX7_begin_15 rfl (lv_at hl 2 rfl) ?_
  refine lv_iconst (v := 0) C.1 C.2.1 dX7_begin_16 (by decide) ?_
  refine lv_aload_n C.1 C.2.1 dX7_begin_17 rfl (lv_at hl 0 rfl) ?_
  refine m_get C w (k := x) (j := 5) (v := .ref (r (x + 1))) flX7_9 (by have := hx.1; omega) hx.2.2.1 (mm_v3 hx.2.2.2.2.2.2.2.2.2.2.2.2.1) dX7_begin_18 ?_
  refine lv_iconst (v := 0) C.1 C.2.1 dX7_begin_21 (by decide) ?_
  refine lv_bipush (v := 32) C.1 C.2.1 dX7_begin_22 (by decide) ?_
  refine m_cpb C w hl (k := k1) (k2 := x + 1) (sp := 0) (dp := 0) (n := 32) hk1 hs1 hn1 (by have := hx.1; omega) (hx.2.2.2.1 0 (by decide)) (by decide) acX7_70 (by omega) (by omega) (Nat.le_of_ble_eq_true rfl) (Nat.le_of_ble_eq_true rfl) dX7_begin_24 (fun H locs w => ?_)
  obtain ⟨M_4, eM_4⟩ : ∃ zz, zz = mm_cp M_3 k1 0 (x + 1) 0 32 := ⟨_, rfl⟩
  rw [← eM_4] at w
  refine lv_aload_n C.1 C.2.1 dX7_begin_27 rfl (lv_at hl 3 rfl) ?_
  refine lv_iconst (v := 0) C.1 C.2.1 dX7_begin_28 (by decide) ?_
  refine lv_aload_n C.1 C.2.1 dX7_begin_29 rfl (lv_at hl 0 rfl) ?_
  refine m_get C w (k := x) (j := 6) (v := .ref (r (x + 2))) flX7_15 (by have := hx.1; omega) hx.2.2.1 (mm_v3 hx.2.2.2.2.2.2.2.2.2.2.2.2.2.1) dX7_begin_30 ?_
  refine lv_iconst (v := 0) C.1 C.2.1 dX7_begin_33 (by decide) ?_
  refine lv_bipush (v := 32) C.1 C.2.1 dX7_begin_34 (by decide) ?_
  refine m_cpb C w hl (k := k2) (k2 := x + 2) (sp := 0) (dp := 0) (n := 32) hk2 hs2 hn2 (by have := hx.1; omega) (hx.2.2.2.1 1 (by decide)) (by decide) acX7_70 (by omega) (by omega) (Nat.le_of_ble_eq_true rfl) (Nat.le_of_ble_eq_true rfl) dX7_begin_36 (fun H locs w => ?_)
  obtain ⟨M_5, eM_5⟩ : ∃ zz, zz = mm_cp M_4 k2 0 (x + 2) 0 32 := ⟨_, rfl⟩
  rw [← eM_5] at w
  refine lv_aload_n C.1 C.2.1 dX7_begin_39 rfl (lv_at hl 0 rfl) ?_
  refine m_get C w (k := x) (j := 3) (v := .ref (r (x + 11))) flX7_63 (by have := hx.1; omega) hx.2.2.1 (mm_v3 hx.2.2.2.2.2.2.2.2.2.2.1) dX7_begin_40 ?_
  refine m_cvv C w hl cvX7_76 (k := x + 11) (by have := hx.2.2.2.2.2.1.1; omega) hx.2.2.2.2.2.1.2.1 (q := (RX3, TX3, 5)) rfl rfl (As := []) (rest := []) (c_X3_forgetKey l D b0 r M_5 (x + 11) hx.2.2.2.2.2.1) rfl rfl (Nat.le_of_ble_eq_true rfl) ⟨Nat.le_of_ble_eq_true rfl, Nat.le_of_ble_eq_true rfl⟩ ⟨Nat.zero_le _, Nat.zero_le _⟩ dX7_begin_43 (fun M_6 H locs eM_6 w => ?_)
  refine lv_aload_n C.1 C.2.1 dX7_begin_46 rfl (lv_at hl 0 rfl) ?_
  refine m_get C w (k := x) (j := 4) (v := .ref (r (x + 14))) flX7_67 (by have := hx.1; omega) hx.2.2.1 (mm_v3 hx.2.2.2.2.2.2.2.2.2.2.2.1) dX7_begin_47 ?_
  refine m_cvv C w hl cvX7_76 (k := x + 14) (by have := hx.2.2.2.2.2.2.1.1; omega) hx.2.2.2.2.2.2.1.2.1 (q := (RX3, TX3, 5)) rfl rfl (As := []) (rest := []) (c_X3_forgetKey l D b0 r M_6 (x + 14) hx.2.2.2.2.2.2.1) rfl rfl (Nat.le_of_ble_eq_true rfl) ⟨Nat.le_of_ble_eq_true rfl, Nat.le_of_ble_eq_true rfl⟩ ⟨Nat.zero_le _, Nat.zero_le _⟩ dX7_begin_50 (fun M_7 H locs eM_7 w => ?_)
  refine lv_aload_n C.1 C.2.1 dX7_begin_53 rfl (lv_at hl 0 rfl) ?_
  refine m_get C w (k := x) (j := 1) (v := .ref (r (x + 5))) flX7_47 (by have := hx.1; omega) hx.2.2.1 (mm_v3 hx.2.2.2.2.2.2.2.2.1) dX7_begin_54 ?_
  refine m_cvv C w hl cvX7_79 (k := x + 5) (by have := hx.2.2.2.2.1.1; omega) hx.2.2.2.2.1.2.1 (q := (RX10, TX10, 5)) rfl rfl (As := []) (rest := []) (c_X10_initialize l D b0 r M_7 (x + 5) hx.2.2.2.2.1) rfl rfl (Nat.le_of_ble_eq_true rfl) ⟨Nat.le_of_ble_eq_true rfl, Nat.le_of_ble_eq_true rfl⟩ ⟨Nat.zero_le _, Nat.zero_le _⟩ dX7_begin_57 (fun M_8 H locs eM_8 w => ?_)
  refine lv_aload_n C.1 C.2.1 dX7_begin_60 rfl (lv_at hl 0 rfl) ?_
  refine m_get C w (k := x) (j := 1) (v := .ref (r (x + 5))) flX7_47 (by have := hx.1; omega) hx.2.2.1 (mm_v3 hx.2.2.2.2.2.2.2.2.1) dX7_begin_61 ?_
  refine lv_aload C.1 C.2.1 dX7_begin_64 (lv_at hl 4 rfl) ?_
  refine lv_iconst (v := 0) C.1 C.2.1 dX7_begin_66 (by decide) ?_
  refine lv_iload C.1 C.2.1 dX7_begin_67 (lv_at hl 5 rfl) ?_
  refine m_cvv C w hl cvX7_82 (k := x + 5) (by have := hx.2.2.2.2.1.1; omega) hx.2.2.2.2.1.2.1 (q := (RX10, TX10, 5)) rfl rfl (As := [.ref (r (1)), .int 0, .int (nI (p1))]) (rest := []) (c_X10_mixHash l D b0 r M_8 (x + 5) 1 0 p1 hx.2.2.2.2.1 (by decide) rfl (by decide) (by omega) (by omega)) rfl rfl (Nat.le_of_ble_eq_true rfl) ⟨Nat.le_of_ble_eq_true rfl, Nat.le_of_ble_eq_true rfl⟩ ⟨Nat.zero_le _, Nat.zero_le _⟩ dX7_begin_69 (fun M_9 H locs eM_9 w => ?_)
  exact m_vret C w (by subst eM_1 eM_2 eM_3 eM_4 eM_5 eM_6 eM_7 eM_8 eM_9; exact Eq.symm (rfl)) dX7_begin_72
