def f_X6_begin_L110 (k1 : Nat) (σ : mm_M) : Nat → mm_M
  | 0 => σ
  | t + 1 =>
  let M_15 := f_X6_begin_L110 k1 σ t
  let M_18 := mm_w M_15 40 t (f_X1_loadLittle k1 (16 + (4 * t)) M_15)
  M_18
theorem w_f_X6_begin_L110 (k1 : Nat) (σ : mm_M) : ∀ t : Nat, mm_fr [40] σ (f_X6_begin_L110 k1 σ t)
  | 0 => mm_fr_refl _ _
  | t + 1 => have ih := w_f_X6_begin_L110 k1 σ t
    (mm_fr_w (by simp) ih)
def f_X6_begin_L90  (σ : mm_M) : Nat → mm_M
  | 0 => σ
  | t + 1 =>
  let M_19 := f_X6_begin_L90 σ t
  let M_21 := mm_wl M_19 38 t (0)
  M_21
theorem w_f_X6_begin_L90  (σ : mm_M) : ∀ t : Nat, mm_fr [38] σ (f_X6_begin_L90 σ t)
  | 0 => mm_fr_refl _ _
  | t + 1 => have ih := w_f_X6_begin_L90 σ t
    (mm_fr_wl (by simp) ih)
def f_X6_begin (k1 : Nat) (M : mm_M) : mm_M :=
  let M_2 := mm_wl M 37 0 ((((f_X1_loadLittle k1 0 M) &&& (67108863 : Int32)) : Int32).toInt64)
  let M_4 := mm_wl M_2 37 1 ((((mm_us (f_X1_loadLittle k1 3 M_2) (2 : Int32)) &&& (67108611 : Int32)) : Int32).toInt64)
  let M_6 := mm_wl M_4 37 2 ((((mm_us (f_X1_loadLittle k1 6 M_4) (4 : Int32)) &&& (67092735 : Int32)) : Int32).toInt64)
  let M_8 := mm_wl M_6 37 3 ((((mm_us (f_X1_loadLittle k1 9 M_6) (6 : Int32)) &&& (66076671 : Int32)) : Int32).toInt64)
  let M_10 := mm_wl M_8 37 4 ((((mm_us (f_X1_loadLittle k1 12 M_8) (8 : Int32)) &&& (1048575 : Int32)) : Int32).toInt64)
  let M_11 := f_X6_begin_L90 M_10 5
  let M_13 := f_X6_begin_L110 k1 M_11 4
  M_13
theorem w_f_X6_begin (k1 : Nat) (M : mm_M) : mm_fr [37, 40, 38] M (f_X6_begin k1 M) := by
  unfold f_X6_begin
  exact ((w_f_X6_begin_L110 _ _ 4).on (by simp) ((w_f_X6_begin_L90 _ 5).on (by simp) (mm_fr_wl (by simp) (mm_fr_wl (by simp) (mm_fr_wl (by simp) (mm_fr_wl (by simp) (mm_fr_wl (by simp) (mm_fr_refl _ _))))))))
set_option maxHeartbeats 4000000 in
set_option maxRecDepth 100000 in
theorem c_X6_begin (l : Launch) (D : va_G) (b0 : Nat) (r : Nat → Nat) (M : mm_M) (k1 : Nat) {n1 : Nat} {w1 : Bool} (hk1 : k1 < 181) (hs1 : mm_sh k1 = .inl (.byte, n1, w1)) (hn1 : n1 < 2 ^ 31) (hp1 : 32 ≤ n1) : mm_Mv l yX6_begin cX6_begin 3 1 21 D b0 r [.ref (r (36)), .ref (r (k1))] M (fun M' => M' = f_X6_begin k1 M) := by
  refine mm_enter (cc := cX6_begin) (nL := 3) (ret := none) (by decide) (Nat.le_of_ble_eq_true rfl) ?_
  intro p e s m args below meth c C w ls hl
  have hl : lv_has ls 3 [(0, .ref (r (36))), (1, .ref (r (k1)))] := hl
  refine lv_aload_n C.1 C.2.1 dX6_begin_0 rfl (lv_at hl 0 rfl) ?_
  refine m_get C w (k := 36) (j := 0) (v := .ref (r (37))) flX6_7 (by decide) rfl rfl dX6_begin_1 ?_
  refine lv_iconst (v := 0) C.1 C.2.1 dX6_begin_4 (by decide) ?_
  refine lv_aload_n C.1 C.2.1 dX6_begin_5 rfl (lv_at hl 1 rfl) ?_
  refine lv_iconst (v := 0) C.1 C.2.1 dX6_begin_6 (by decide) ?_
  refine m_csi C w hl csX6_24 (As := [.ref (r (k1)), .int 0]) (rest := [.int 0, .ref (r (37))]) (c_X1_loadLittle l D b0 r M k1 0 hk1 hs1 hn1 (by omega)) rfl rfl (Nat.le_of_ble_eq_true rfl) ⟨Nat.le_of_ble_eq_true rfl, Nat.le_of_ble_eq_true rfl⟩ ⟨Nat.zero_le _, Nat.zero_le _⟩ dX6_begin_7 (fun v_1 M9 H locs e9 w => ?_)
  obtain ⟨ev_1, e9⟩ := e9
  rw [e9] at w
  subst ev_1
  refine lv_ldc (v := (67108863)) C.1 C.2.1 C.2.2.2.1 (C.2.2.2.2.1 _ kkX6_30) dX6_begin_10 ?_
  refine lv_iand C.1 C.2.1 dX6_begin_12 ?_
  refine lv_i2l (v := (((f_X1_loadLittle k1 0 M) &&& (67108863 : Int32)) : Int32).toInt64) C.1 C.2.1 dX6_begin_13 rfl ?_
  refine m_last C w (k := 37) (i := 0) (n := 5) (x := ((((f_X1_loadLittle k1 0 M) &&& (67108863 : Int32)) : Int32).toInt64)) (by decide) rfl (by omega) (by decide) dX6_begin_14 (fun H locs w => ?_)
  obtain ⟨M_2, eM_2⟩ : ∃ zz, zz = mm_wl M 37 0 ((((f_X1_loadLittle k1 0 M) &&& (67108863 : Int32)) : Int32).toInt64) := ⟨_, rfl⟩
  rw [← eM_2] at w
  refine lv_aload_n C.1 C.2.1 dX6_begin_15 rfl (lv_at hl 0 rfl) ?_
  refine m_get C w (k := 36) (j := 0) (v := .ref (r (37))) flX6_7 (by decide) rfl rfl dX6_begin_16 ?_
  refine lv_iconst (v := 1) C.1 C.2.1 dX6_begin_19 (by decide) ?_
  refine lv_aload_n C.1 C.2.1 dX6_begin_20 rfl (lv_at hl 1 rfl) ?_
  refine lv_iconst (v := 3) C.1 C.2.1 dX6_begin_21 (by decide) ?_
  refine m_csi C w hl csX6_24 (As := [.ref (r (k1)), .int 3]) (rest := [.int 1, .ref (r (37))]) (c_X1_loadLittle l D b0 r M_2 k1 3 hk1 hs1 hn1 (by omega)) rfl rfl (Nat.le_of_ble_eq_true rfl) ⟨Nat.le_of_ble_eq_true rfl, Nat.le_of_ble_eq_true rfl⟩ ⟨Nat.zero_le _, Nat.zero_le _⟩ dX6_begin_22 (fun v_3 M9 H locs e9 w => ?_)
  obtain ⟨ev_3, e9⟩ := e9
  rw [e9] at w
  subst ev_3
  refine lv_iconst (v := 2) C.1 C.2.1 dX6_begin_25 (by decide) ?_
  refine lv_iushr (v := mm_us (f_X1_loadLittle k1 3 M_2) (2 : Int32)) C.1 C.2.1 dX6_begin_26 rfl ?_
  refine lv_ldc (v := (67108611)) C.1 C.2.1 C.2.2.2.1 (C.2.2.2.2.1 _ kkX6_31) dX6_begin_27 ?_
  refine lv_iand C.1 C.2.1 dX6_begin_29 ?_
  refine lv_i2l (v := (((mm_us (f_X1_loadLittle k1 3 M_2) (2 : Int32)) &&& (67108611 : Int32)) : Int32).toInt64) C.1 C.2.1 dX6_begin_30 rfl ?_
  refine m_last C w (k := 37) (i := 1) (n := 5) (x := ((((mm_us (f_X1_loadLittle k1 3 M_2) (2 : Int32)) &&& (67108611 : Int32)) : Int32).toInt64)) (by decide) rfl (by omega) (by decide) dX6_begin_31 (fun H locs w => ?_)
  obtain ⟨M_4, eM_4⟩ : ∃ zz, zz = mm_wl M_2 37 1 ((((mm_us (f_X1_loadLittle k1 3 M_2) (2 : Int32)) &&& (67108611 : Int32)) : Int32).toInt64) := ⟨_, rfl⟩
  rw [← eM_4] at w
  refine lv_aload_n C.1 C.2.1 dX6_begin_32 rfl (lv_at hl 0 rfl) ?_
  refine m_get C w (k := 36) (j := 0) (v := .ref (r (37))) flX6_7 (by decide) rfl rfl dX6_begin_33 ?_
  refine lv_iconst (v := 2) C.1 C.2.1 dX6_begin_36 (by decide) ?_
  refine lv_aload_n C.1 C.2.1 dX6_begin_37 rfl (lv_at hl 1 rfl) ?_
  refine lv_bipush (v := 6) C.1 C.2.1 dX6_begin_38 (by decide) ?_
  refine m_csi C w hl csX6_24 (As := [.ref (r (k1)), .int 6]) (rest := [.int 2, .ref (r (37))]) (c_X1_loadLittle l D b0 r M_4 k1 6 hk1 hs1 hn1 (by omega)) rfl rfl (Nat.le_of_ble_eq_true rfl) ⟨Nat.le_of_ble_eq_true rfl, Nat.le_of_ble_eq_true rfl⟩ ⟨Nat.zero_le _, Nat.zero_le _⟩ dX6_begin_40 (fun v_5 M9 H locs e9 w => ?_)
  obtain ⟨ev_5, e9⟩ := e9
  rw [e9] at w
  subst ev_5
  refine lv_iconst (v := 4) C.1 C.2.1 dX6_begin_43 (by decide) ?_
  refine lv_iushr (v := mm_us (f_X1_loadLittle k1 6 M_4) (4 : Int32)) C.1 C.2.1 dX6_begin_44 rfl ?_
  refine lv_ldc (v := (67092735)) C.1 C.2.1 C.2.2.2.1 (C.2.2.2.2.1 _ kkX6_32) dX6_begin_45 ?_
  refine lv_iand C.1 C.2.1 dX6_begin_47 ?_
  refine lv_i2l (v := (((mm_us (f_X1_loadLittle k1 6 M_4) (4 : Int32)) &&& (67092735 : Int32)) : Int32).toInt64) C.1 C.2.1 dX6_begin_48 rfl ?_
  refine m_last C w (k := 37) (i := 2) (n := 5) (x := ((((mm_us (f_X1_loadLittle k1 6 M_4) (4 : Int32)) &&& (67092735 : Int32)) : Int32).toInt64)) (by decide) rfl (by omega) (by decide) dX6_begin_49 (fun H locs w => ?_)
  obtain ⟨M_6, eM_6⟩ : ∃ zz, zz = mm_wl M_4 37 2 ((((mm_us (f_X1_loadLittle k1 6 M_4) (4 : Int32)) &&& (67092735 : Int32)) : Int32).toInt64) := ⟨_, rfl⟩
  rw [← eM_6] at w
  refine lv_aload_n C.1 C.2.1 dX6_begin_50 rfl (lv_at hl 0 rfl) ?_
  refine m_get C w (k := 36) (j := 0) (v := .ref (r (37))) flX6_7 (by decide) rfl rfl dX6_begin_51 ?_
  refine lv_iconst (v := 3) C.1 C.2.1 dX6_begin_54 (by decide) ?_
  refine lv_aload_n C.1 C.2.1 dX6_begin_55 rfl (lv_at hl 1 rfl) ?_
  refine lv_bipush (v := 9) C.1 C.2.1 dX6_begin_56 (by decide) ?_
  refine m_csi C w hl csX6_24 (As := [.ref (r (k1)), .int 9]) (rest := [.int 3, .ref (r (37))]) (c_X1_loadLittle l D b0 r M_6 k1 9 hk1 hs1 hn1 (by omega)) rfl rfl (Nat.le_of_ble_eq_true rfl) ⟨Nat.le_of_ble_eq_true rfl, Nat.le_of_ble_eq_true rfl⟩ ⟨Nat.zero_le _, Nat.zero_le _⟩ dX6_begin_58 (fun v_7 M9 H locs e9 w => ?_)
  obtain ⟨ev_7, e9⟩ := e9
  rw [e9] at w
  subst ev_7
  refine lv_bipush (v := 6) C.1 C.2.1 dX6_begin_61 (by decide) ?_
  refine lv_iushr (v := mm_us (f_X1_loadLittle k1 9 M_6) (6 : Int32)) C.1 C.2.1 dX6_begin_63 rfl ?_
  refine lv_ldc (v := (66076671)) C.1 C.2.1 C.2.2.2.1 (C.2.2.2.2.1 _ kkX6_33) dX6_begin_64 ?_
  refine lv_iand C.1 C.2.1 dX6_begin_66 ?_
  refine lv_i2l (v := (((mm_us (f_X1_loadLittle k1 9 M_6) (6 : Int32)) &&& (66076671 : Int32)) : Int32).toInt64) C.1 C.2.1 dX6_begin_67 rfl ?_
  refine m_last C w (k := 37) (i := 3) (n := 5) (x := ((((mm_us (f_X1_loadLittle k1 9 M_6) (6 : Int32)) &&& (66076671 : Int32)) : Int32).toInt64)) (by decide) rfl (by omega) (by decide) dX6_begin_68 (fun H locs w => ?_)
  obtain ⟨M_8, eM_8⟩ : ∃ zz, zz = mm_wl M_6 37 3 ((((mm_us (f_X1_loadLittle k1 9 M_6) (6 : Int32)) &&& (66076671 : Int32)) : Int32).toInt64) := ⟨_, rfl⟩
  rw [← eM_8] at w
  refine lv_aload_n C.1 C.2.1 dX6_begin_69 rfl (lv_at hl 0 rfl) ?_
  refine m_get C w (k := 36) (j := 0) (v := .ref (r (37))) flX6_7 (by decide) rfl rfl dX6_begin_70 ?_
  refine lv_iconst (v := 4) C.1 C.2.1 dX6_begin_73 (by decide) ?_
  refine lv_aload_n C.1 C.2.1 dX6_begin_74 rfl (lv_at hl 1 rfl) ?_
  refine lv_bipush (v := 12) C.1 C.2.1 dX6_begin_75 (by decide) ?_
  refine m_csi C w hl csX6_24 (As := [.ref (r (k1)), .int 12]) (rest := [.int 4, .ref (r (37))]) (c_X1_loadLittle l D b0 r M_8 k1 12 hk1 hs1 hn1 (by omega)) rfl rfl (Nat.le_of_ble_eq_true rfl) ⟨Nat.le_of_ble_eq_true rfl, Nat.le_of_ble_eq_true rfl⟩ ⟨Nat.zero_le _, Nat.zero_le _⟩ dX6_begin_77 (fun v_9 M9 H locs e9 w => ?_)
  obtain ⟨ev_9, e9⟩ := e9
  rw [e9] at w
  subst ev_9
  refine lv_bipush (v := 8) C.1 C.2.1 dX6_begin_80 (by decide) ?_
  refine lv_iushr (v := mm_us (f_X1_loadLittle k1 12 M_8) (8 : Int32)) C.1 C.2.1 dX6_begin_82 rfl ?_
  refine lv_ldc (v := (1048575)) C.1 C.2.1 C.2.2.2.1 (C.2.2.2.2.1 _ kkX6_34) dX6_begin_83 ?_
  refine lv_iand C.1 C.2.1 dX6_begin_85 ?_
  refine lv_i2l (v := (((mm_us (f_X1_loadLittle k1 12 M_8) (8 : Int32)) &&& (1048575 : Int32)) : Int32).toInt64) C.1 C.2.1 dX6_begin_86 rfl ?_
  refine m_last C w (k := 37) (i := 4) (n := 5) (x := ((((mm_us (f_X1_loadLittle k1 12 M_8) (8 : Int32)) &&& (1048575 : Int32)) : Int32).toInt64)) (by decide) rfl (by omega) (by decide) dX6_begin_87 (fun H locs w => ?_)
  obtain ⟨M_10, eM_10⟩ : ∃ zz, zz = mm_wl M_8 37 4 ((((mm_us (f_X1_loadLittle k1 12 M_8) (8 : Int32)) &&& (1048575 : Int32)) : Int32).toInt64) := ⟨_, rfl⟩
  rw [← eM_10] at w
  refine lv_iconst (v := 0) C.1 C.2.1 dX6_begin_88 (by decide) ?_
  refine lv_istore_n (lv' := [(2, .int 0), (0, .ref (r (36))), (1, .ref (r (k1)))]) C.1 C.2.1 dX6_begin_89 rfl hl (by decide) rfl (fun ls hl => ?_)
  have loop : ∀ (k t : Nat), t + k = 5 → ∀ (H : Heap) (locs : List Loc) (ls : Array Slot), mm_W D b0 r (f_X6_begin_L90 M_10 t) s H locs → lv_has ls 3 [(2, .int (nI (t))), (0, .ref (r (36))), (1, .ref (r (k1)))] → W p l e (mm_rm 1 21) s m args below meth c H locs 0 0 (MQ below (va_Qv (fun M' => M' = f_X6_begin k1 M) (mm_U D b0 r) (fun q => b0 ≤ q)) args s 0 0 (fun q => b0 ≤ q)) (F0 m 90 ls []) := by
    intro k
    induction k with
    | zero =>
      intro t ht H locs ls w hl
      obtain rfl : 5 = t := by omega
      obtain ⟨M_11, eM_11⟩ : ∃ zz, zz = f_X6_begin_L90 M_10 5 := ⟨_, rfl⟩
      rw [← eM_11] at w
      refine lv_iload_n C.1 C.2.1 dX6_begin_90 rfl (lv_at hl 0 rfl) ?_
      refine lv_iconst (v := 5) C.1 C.2.1 dX6_begin_91 (by decide) ?_
      refine m_icmp_ge (tgt := 108) (a := 5) (b := 5) C (by omega) (by omega) dX6_begin_92 (by decide) (fun _ => ?_) (fun h_12 => absurd h_12 (by omega))
      refine lv_iconst (v := 0) C.1 C.2.1 dX6_begin_108 (by decide) ?_
      refine lv_istore_n (lv' := [(2, .int 0), (0, .ref (r (36))), (1, .ref (r (k1)))]) C.1 C.2.1 dX6_begin_109 rfl hl (by decide) rfl (fun ls hl => ?_)
      have loop : ∀ (k t : Nat), t + k = 4 → ∀ (H : Heap) (locs : List Loc) (ls : Array Slot), mm_W D b0 r (f_X6_begin_L110 k1 M_11 t) s H locs → lv_has ls 3 [(2, .int (nI (t))), (0, .ref (r (36))), (1, .ref (r (k1)))] → W p l e (mm_rm 1 21) s m args below meth c H locs 0 0 (MQ below (va_Qv (fun M' => M' = f_X6_begin k1 M) (mm_U D b0 r) (fun q => b0 ≤ q)) args s 0 0 (fun q => b0 ≤ q)) (F0 m 110 ls []) := by
        intro k
        induction k with
        | zero =>
          intro t ht H locs ls w hl
          obtain rfl : 4 = t := by omega
          obtain ⟨M_13, eM_13⟩ : ∃ zz, zz = f_X6_begin_L110 k1 M_11 4 := ⟨_, rfl⟩
          rw [← eM_13] at w
          refine lv_iload_n C.1 C.2.1 dX6_begin_110 rfl (lv_at hl 0 rfl) ?_
          refine lv_iconst (v := 4) C.1 C.2.1 dX6_begin_111 (by decide) ?_
          refine m_icmp_ge (tgt := 137) (a := 4) (b := 4) C (by omega) (by omega) dX6_begin_112 (by decide) (fun _ => ?_) (fun h_14 => absurd h_14 (by omega))
          exact m_vret C w (by subst eM_2 eM_4 eM_6 eM_8 eM_10 eM_11 eM_13; exact Eq.symm (rfl)) dX6_begin_137
        | succ k ih =>
          intro t ht H locs ls w hl
          obtain ⟨M_15, eM_15⟩ : ∃ zz, zz = f_X6_begin_L110 k1 M_11 t := ⟨_, rfl⟩
          rw [← eM_15] at w
          refine lv_iload_n C.1 C.2.1 dX6_begin_110 rfl (lv_at hl 0 rfl) ?_
          refine lv_iconst (v := 4) C.1 C.2.1 dX6_begin_111 (by decide) ?_
          refine m_icmp_ge (tgt := 137) (a := t) (b := 4) C (by omega) (by omega) dX6_begin_112 (by decide) (fun h_16 => absurd h_16 (by omega)) (fun _ => ?_)
          refine lv_aload_n C.1 C.2.1 dX6_begin_115 rfl (lv_at hl 1 rfl) ?_
          refine m_get C w (k := 36) (j := 3) (v := .ref (r (40))) flX6_20 (by decide) rfl rfl dX6_begin_116 ?_
          refine lv_iload_n C.1 C.2.1 dX6_begin_119 rfl (lv_at hl 0 rfl) ?_
          refine lv_aload_n C.1 C.2.1 dX6_begin_120 rfl (lv_at hl 2 rfl) ?_
          refine lv_bipush (v := 16) C.1 C.2.1 dX6_begin_121 (by decide) ?_
          refine lv_iconst (v := 4) C.1 C.2.1 dX6_begin_123 (by decide) ?_
          refine lv_iload_n C.1 C.2.1 dX6_begin_124 rfl (lv_at hl 0 rfl) ?_
          refine lv_imul C.1 C.2.1 dX6_begin_125 ?_
          refine m_i (y := nI (4 * t)) (pk_mul 4 t) ?_
          refine lv_iadd C.1 C.2.1 dX6_begin_126 ?_
          refine m_i (y := nI (16 + (4 * t))) (nI_add 16 (4 * t)) ?_
          refine m_csi C w hl csX6_24 (As := [.ref (r (k1)), .int (nI (16 + (4 * t)))]) (rest := [.int (nI (t)), .ref (r (40))]) (c_X1_loadLittle l D b0 r M_15 k1 (16 + (4 * t)) hk1 hs1 hn1 (by omega)) rfl rfl (Nat.le_of_ble_eq_true rfl) ⟨Nat.le_of_ble_eq_true rfl, Nat.le_of_ble_eq_true rfl⟩ ⟨Nat.zero_le _, Nat.zero_le _⟩ dX6_begin_127 (fun v_17 M9 H locs e9 w => ?_)
          obtain ⟨ev_17, e9⟩ := e9
          rw [e9] at w
          subst ev_17
          refine m_iast C w (k := 40) (i := t) (n := 4) (x := (f_X1_loadLittle k1 (16 + (4 * t)) M_15)) (by decide) rfl (by omega) (by decide) dX6_begin_130 (fun H locs w => ?_)
          obtain ⟨M_18, eM_18⟩ : ∃ zz, zz = mm_w M_15 40 t (f_X1_loadLittle k1 (16 + (4 * t)) M_15) := ⟨_, rfl⟩
          rw [← eM_18] at w
          refine lv_iinc (v := (nI (t + 1))) (lv' := [(2, .int (nI (t + 1))), (0, .ref (r (36))), (1, .ref (r (k1)))]) C.1 C.2.1 dX6_begin_131 hl (k := 0) rfl (nI_add t 1) (by decide) rfl (fun ls hl => ?_)
          refine lv_goto (tgt := 110) C.1 C.2.1 dX6_begin_134 (by decide) ?_
          have h9 : lv_has ls 3 [(2, .int (nI (t + 1))), (0, .ref (r (36))), (1, .ref (r (k1)))] := lv_sub hl [0, 1, 2] rfl
          have hlZ : lv_has ls 3 [(2, .int (nI (t + 1))), (0, .ref (r (36))), (1, .ref (r (k1)))] := h9
          have wZ := w
          subst eM_15 eM_18
          refine ih (t + 1) (by omega) _ _ _ (wZ) ?_
          exact hlZ
      exact loop 4 0 (by omega) _ _ ls w hl
    | succ k ih =>
      intro t ht H locs ls w hl
      obtain ⟨M_19, eM_19⟩ : ∃ zz, zz = f_X6_begin_L90 M_10 t := ⟨_, rfl⟩
      rw [← eM_19] at w
      refine lv_iload_n C.1 C.2.1 dX6_begin_90 rfl (lv_at hl 0 rfl) ?_
      refine lv_iconst (v := 5) C.1 C.2.1 dX6_begin_91 (by decide) ?_
      refine m_icmp_ge (tgt := 108) (a := t) (b := 5) C (by omega) (by omega) dX6_begin_92 (by decide) (fun h_20 => absurd h_20 (by omega)) (fun _ => ?_)
      refine lv_aload_n C.1 C.2.1 dX6_begin_95 rfl (lv_at hl 1 rfl) ?_
      refine m_get C w (k := 36) (j := 1) (v := .ref (r (38))) flX6_13 (by decide) rfl rfl dX6_begin_96 ?_
      refine lv_iload_n C.1 C.2.1 dX6_begin_99 rfl (lv_at hl 0 rfl) ?_
      refine lv_lconst (v := 0) C.1 C.2.1 dX6_begin_100 (by decide) ?_
      refine m_last C w (k := 38) (i := t) (n := 5) (x := (0)) (by decide) rfl (by omega) (by decide) dX6_begin_101 (fun H locs w => ?_)
      obtain ⟨M_21, eM_21⟩ : ∃ zz, zz = mm_wl M_19 38 t (0) := ⟨_, rfl⟩
      rw [← eM_21] at w
      refine lv_iinc (v := (nI (t + 1))) (lv' := [(2, .int (nI (t + 1))), (0, .ref (r (36))), (1, .ref (r (k1)))]) C.1 C.2.1 dX6_begin_102 hl (k := 0) rfl (nI_add t 1) (by decide) rfl (fun ls hl => ?_)
      refine lv_goto (tgt := 90) C.1 C.2.1 dX6_begin_105 (by decide) ?_
      have h9 : lv_has ls 3 [(2, .int (nI (t + 1))), (0, .ref (r (36))), (1, .ref (r (k1)))] := lv_sub hl [0, 1, 2] rfl
      have hlZ : lv_has ls 3 [(2, .int (nI (t + 1))), (0, .ref (r (36))), (1, .ref (r (k1)))] := h9
      have wZ := w
      subst eM_19 eM_21
      refine ih (t + 1) (by omega) _ _ _ (wZ) ?_
      exact hlZ
  exact loop 5 0 (by omega) _ _ ls w hl

def f_X6_carry_L4  (σ : mm_M × Int64) : Nat → mm_M × Int64
  | 0 => σ
  | t + 1 =>
  let M_5 := (f_X6_carry_L4 σ t).1
  let y_6 := (f_X6_carry_L4 σ t).2
  let x4_8 := (M_5.2 38 t) + (y_6)
  let x1_9 := mm_ul (x4_8) (26 : Int32)
  let M_10 := mm_wl M_5 38 t ((x4_8) &&& (67108863))
  (M_10, (x1_9))
theorem w_f_X6_carry_L4  (σ : mm_M × Int64) : ∀ t : Nat, mm_fr1 [38] σ.1 (f_X6_carry_L4 σ t)
  | 0 => mm_fr_refl _ _
  | t + 1 => have ih := (w_f_X6_carry_L4 σ t).m
    (mm_fr_wl (by simp) ih).a
def f_X6_carry  (M : mm_M) : mm_M :=
  let M_1 := (f_X6_carry_L4 (M, (0)) 5).1
  let y_2 := (f_X6_carry_L4 (M, (0)) 5).2
  let M_4 := mm_wl M_1 38 0 ((M_1.2 38 0) + ((5) * (y_2)))
  M_4
theorem w_f_X6_carry  (M : mm_M) : mm_fr [38] M (f_X6_carry  M) := by
  unfold f_X6_carry
  exact (mm_fr_wl (by simp) ((w_f_X6_carry_L4 _ 5).m.on (by simp) (mm_fr_refl _ _)))
set_option maxHeartbeats 4000000 in
set_option maxRecDepth 100000 in
theorem c_X6_carry (l : Launch) (D : va_G) (b0 : Nat) (r : Nat → Nat) (M : mm_M)   : mm_Mv l yX6_carry cX6_carry 6 0 0 D b0 r [.ref (r (36))] M (fun M' => M' = f_X6_carry  M) := by
  refine mm_enter (cc := cX6_carry) (nL := 6) (ret := none) (by decide) (Nat.le_of_ble_eq_true rfl) ?_
  intro p e s m args below meth c C w ls hl
  have hl : lv_has ls 6 [(0, .ref (r (36)))] := hl
  refine lv_lconst (v := 0) C.1 C.2.1 dX6_carry_0 (by decide) ?_
  refine lv_lstore_n (lv' := [(1, .long (0)), (0, .ref (r (36)))]) C.1 C.2.1 dX6_carry_1 rfl hl (by decide) rfl (fun ls hl => ?_)
  refine lv_iconst (v := 0) C.1 C.2.1 dX6_carry_2 (by decide) ?_
  refine lv_istore_n (lv' := [(3, .int 0), (1, .long (0)), (0, .ref (r (36)))]) C.1 C.2.1 dX6_carry_3 rfl hl (by decide) rfl (fun ls hl => ?_)
  have loop : ∀ (k t : Nat), t + k = 5 → ∀ (H : Heap) (locs : List Loc) (ls : Array Slot), mm_W D b0 r ((f_X6_carry_L4 (M, (0)) t).1) s H locs → lv_has ls 6 [(3, .int (nI (t))), (1, .long ((f_X6_carry_L4 (M, (0)) t).2)), (0, .ref (r (36)))] → W p l e (mm_rm 0 0) s m args below meth c H locs 0 0 (MQ below (va_Qv (fun M' => M' = f_X6_carry  M) (mm_U D b0 r) (fun q => b0 ≤ q)) args s 0 0 (fun q => b0 ≤ q)) (F0 m 4 ls []) := by
    intro k
    induction k with
    | zero =>
      intro t ht H locs ls w hl
      obtain rfl : 5 = t := by omega
      obtain ⟨M_1, eM_1⟩ : ∃ zz, zz = (f_X6_carry_L4 (M, (0)) 5).1 := ⟨_, rfl⟩
      rw [← eM_1] at w
      obtain ⟨y_2, ey_2⟩ : ∃ zz, zz = (f_X6_carry_L4 (M, (0)) 5).2 := ⟨_, rfl⟩
      rw [← ey_2] at hl
      refine lv_iload_n C.1 C.2.1 dX6_carry_4 rfl (lv_at hl 0 rfl) ?_
      refine lv_iconst (v := 5) C.1 C.2.1 dX6_carry_5 (by decide) ?_
      refine m_icmp_ge (tgt := 43) (a := 5) (b := 5) C (by omega) (by omega) dX6_carry_6 (by decide) (fun _ => ?_) (fun h_3 => absurd h_3 (by omega))
      refine lv_aload_n C.1 C.2.1 dX6_carry_43 rfl (lv_at hl 2 rfl) ?_
      refine m_get C w (k := 36) (j := 1) (v := .ref (r (38))) flX6_13 (by decide) rfl rfl dX6_carry_44 ?_
      refine lv_iconst (v := 0) C.1 C.2.1 dX6_carry_47 (by decide) ?_
      refine lv_dup2_11 C.1 C.2.1 dX6_carry_48 rfl rfl ?_
      refine m_lald C w (k := 38) (i := 0) (n := 5) (wr := true) (by decide) rfl (by omega) (by decide) dX6_carry_49 ?_
      refine lv_ldc2 (v := (5)) C.1 C.2.1 C.2.2.2.1 (C.2.2.2.2.1 _ klX6_48) dX6_carry_50 ?_
      refine lv_lload_n C.1 C.2.1 dX6_carry_53 rfl (lv_at hl 1 rfl) ?_
      refine lv_lmul C.1 C.2.1 dX6_carry_54 ?_
      refine lv_ladd C.1 C.2.1 dX6_carry_55 ?_
      refine m_last C w (k := 38) (i := 0) (n := 5) (x := ((M_1.2 38 0) + ((5) * (y_2)))) (by decide) rfl (by omega) (by decide) dX6_carry_56 (fun H locs w => ?_)
      obtain ⟨M_4, eM_4⟩ : ∃ zz, zz = mm_wl M_1 38 0 ((M_1.2 38 0) + ((5) * (y_2))) := ⟨_, rfl⟩
      rw [← eM_4] at w
      exact m_vret C w (by subst eM_1 ey_2 eM_4; exact Eq.symm (rfl)) dX6_carry_57
    | succ k ih =>
      intro t ht H locs ls w hl
      obtain ⟨M_5, eM_5⟩ : ∃ zz, zz = (f_X6_carry_L4 (M, (0)) t).1 := ⟨_, rfl⟩
      rw [← eM_5] at w
      obtain ⟨y_6, ey_6⟩ : ∃ zz, zz = (f_X6_carry_L4 (M, (0)) t).2 := ⟨_, rfl⟩
      rw [← ey_6] at hl
      refine lv_iload_n C.1 C.2.1 dX6_carry_4 rfl (lv_at hl 0 rfl) ?_
      refine lv_iconst (v := 5) C.1 C.2.1 dX6_carry_5 (by decide) ?_
      refine m_icmp_ge (tgt := 43) (a := t) (b := 5) C (by omega) (by omega) dX6_carry_6 (by decide) (fun h_7 => absurd h_7 (by omega)) (fun _ => ?_)
      refine lv_aload_n C.1 C.2.1 dX6_carry_9 rfl (lv_at hl 2 rfl) ?_
      refine m_get C w (k := 36) (j := 1) (v := .ref (r (38))) flX6_13 (by decide) rfl rfl dX6_carry_10 ?_
      refine lv_iload_n C.1 C.2.1 dX6_carry_13 rfl (lv_at hl 0 rfl) ?_
      refine m_lald C w (k := 38) (i := t) (n := 5) (wr := true) (by decide) rfl (by omega) (by decide) dX6_carry_14 ?_
      refine lv_lload_n C.1 C.2.1 dX6_carry_15 rfl (lv_at hl 1 rfl) ?_
      refine lv_ladd C.1 C.2.1 dX6_carry_16 ?_
      refine lv_topl (fun x4_8 ex4_8 => ?_)
      refine lv_lstore (lv' := [(4, .long (x4_8)), (3, .int (nI (t))), (1, .long (y_6)), (0, .ref (r (36)))]) C.1 C.2.1 dX6_carry_17 hl (by decide) rfl (fun ls hl => ?_)
      refine lv_lload C.1 C.2.1 dX6_carry_19 (lv_at hl 0 rfl) ?_
      refine lv_bipush (v := 26) C.1 C.2.1 dX6_carry_21 (by decide) ?_
      refine lv_lushr (v := mm_ul (x4_8) (26 : Int32)) C.1 C.2.1 dX6_carry_23 rfl ?_
      refine lv_topl (fun x1_9 ex1_9 => ?_)
      refine lv_lstore_n (lv' := [(1, .long (x1_9)), (4, .long (x4_8)), (3, .int (nI (t))), (0, .ref (r (36)))]) C.1 C.2.1 dX6_carry_24 rfl hl (by decide) rfl (fun ls hl => ?_)
      refine lv_aload_n C.1 C.2.1 dX6_carry_25 rfl (lv_at hl 3 rfl) ?_
      refine m_get C w (k := 36) (j := 1) (v := .ref (r (38))) flX6_13 (by decide) rfl rfl dX6_carry_26 ?_
      refine lv_iload_n C.1 C.2.1 dX6_carry_29 rfl (lv_at hl 2 rfl) ?_
      refine lv_lload C.1 C.2.1 dX6_carry_30 (lv_at hl 1 rfl) ?_
      refine lv_ldc2 (v := (67108863)) C.1 C.2.1 C.2.2.2.1 (C.2.2.2.2.1 _ klX6_53) dX6_carry_32 ?_
      refine lv_land C.1 C.2.1 dX6_carry_35 ?_
      refine m_last C w (k := 38) (i := t) (n := 5) (x := ((x4_8) &&& (67108863))) (by decide) rfl (by omega) (by decide) dX6_carry_36 (fun H locs w => ?_)
      obtain ⟨M_10, eM_10⟩ : ∃ zz, zz = mm_wl M_5 38 t ((x4_8) &&& (67108863)) := ⟨_, rfl⟩
      rw [← eM_10] at w
      refine lv_iinc (v := (nI (t + 1))) (lv' := [(3, .int (nI (t + 1))), (1, .long (x1_9)), (4, .long (x4_8)), (0, .ref (r (36)))]) C.1 C.2.1 dX6_carry_37 hl (k := 2) rfl (nI_add t 1) (by decide) rfl (fun ls hl => ?_)
      refine lv_goto (tgt := 4) C.1 C.2.1 dX6_carry_40 (by decide) ?_
      have h9 : lv_has ls 6 [(3, .int (nI (t + 1))), (1, .long (x1_9)), (0, .ref (r (36)))] := lv_sub hl [0, 1, 3] rfl
      have hlZ : lv_has ls 6 [(3, .int (nI (t + 1))), (1, .long (x1_9)), (0, .ref (r (36)))] := h9
      have wZ := w
      subst eM_5 ey_6 ex4_8 ex1_9 eM_10
      refine ih (t + 1) (by omega) _ _ _ (wZ) ?_
      exact hlZ
  exact loop 5 0 (by omega) _ _ ls w hl

def f_X6_addBlock  (M : mm_M) : mm_M :=
  let x1_2 := (M.2 38 0) + ((((f_X1_loadLittle 39 0 M) &&& (67108863 : Int32)) : Int32).toInt64)
  let x3_4 := (M.2 38 1) + ((((mm_us (f_X1_loadLittle 39 3 M) (2 : Int32)) &&& (67108863 : Int32)) : Int32).toInt64)
  let x5_6 := (M.2 38 2) + ((((mm_us (f_X1_loadLittle 39 6 M) (4 : Int32)) &&& (67108863 : Int32)) : Int32).toInt64)
  let x7_8 := (M.2 38 3) + ((((mm_us (f_X1_loadLittle 39 9 M) (6 : Int32)) &&& (67108863 : Int32)) : Int32).toInt64)
  let x9_10 := (M.2 38 4) + ((((mm_us (f_X1_loadLittle 39 12 M) (8 : Int32)) ||| (16777216 : Int32)) : Int32).toInt64)
  let x11_11 := M.2 37 0
  let x13_12 := M.2 37 1
  let x15_13 := M.2 37 2
  let x17_14 := M.2 37 3
  let x19_15 := M.2 37 4
  let x21_16 := (5) * (x13_12)
  let x23_17 := (5) * (x15_13)
  let x25_18 := (5) * (x17_14)
  let x27_19 := (5) * (x19_15)
  let M_20 := mm_wl M 38 0 ((((((x1_2) * (x11_11)) + ((x3_4) * (x27_19))) + ((x5_6) * (x25_18))) + ((x7_8) * (x23_17))) + ((x9_10) * (x21_16)))
  let M_21 := mm_wl M_20 38 1 ((((((x1_2) * (x13_12)) + ((x3_4) * (x11_11))) + ((x5_6) * (x27_19))) + ((x7_8) * (x25_18))) + ((x9_10) * (x23_17)))
  let M_22 := mm_wl M_21 38 2 ((((((x1_2) * (x15_13)) + ((x3_4) * (x13_12))) + ((x5_6) * (x11_11))) + ((x7_8) * (x27_19))) + ((x9_10) * (x25_18)))
  let M_23 := mm_wl M_22 38 3 ((((((x1_2) * (x17_14)) + ((x3_4) * (x15_13))) + ((x5_6) * (x13_12))) + ((x7_8) * (x11_11))) + ((x9_10) * (x27_19)))
  let M_24 := mm_wl M_23 38 4 ((((((x1_2) * (x19_15)) + ((x3_4) * (x17_14))) + ((x5_6) * (x15_13))) + ((x7_8) * (x13_12))) + ((x9_10) * (x11_11)))
  let M_25 := f_X6_carry M_24
  M_25
theorem w_f_X6_addBlock  (M : mm_M) : mm_fr [38] M (f_X6_addBlock  M) := by
  unfold f_X6_addBlock
  exact ((w_f_X6_carry _).on (by simp) (mm_fr_wl (by simp) (mm_fr_wl (by simp) (mm_fr_wl (by simp) (mm_fr_wl (by simp) (mm_fr_wl (by simp) (mm_fr_refl _ _)))))))
set_option maxHeartbeats 4000000 in
set_option maxRecDepth 100000 in
theorem c_X6_addBlock (l : Launch) (D : va_G) (b0 : Nat) (r : Nat → Nat) (M : mm_M)   : mm_Mv l yX6_addBlock cX6_addBlock 29 1 25 D b0 r [.ref (r (36))] M (fun M' => M' = f_X6_addBlock  M) := by
  refine mm_enter (cc := cX6_addBlock) (nL := 29) (ret := none) (by decide) (Nat.le_of_ble_eq_true rfl) ?_
  intro p e s m args below meth c C w ls hl
  have hl : lv_has ls 29 [(0, .ref (r (36)))] := hl
  refine lv_aload_n C.1 C.2.1 dX6_addBlock_0 rfl (lv_at hl 0 rfl) ?_
  refine m_get C w (k := 36) (j := 1) (v := .ref (r (38))) flX6_13 (by decide) rfl rfl dX6_addBlock_1 ?_
  refine lv_iconst (v := 0) C.1 C.2.1 dX6_addBlock_4 (by decide) ?_
  refine m_lald C w (k := 38) (i := 0) (n := 5) (wr := true) (by decide) rfl (by omega) (by decide) dX6_addBlock_5 ?_
  refine lv_aload_n C.1 C.2.1 dX6_addBlock_6 rfl (lv_at hl 0 rfl) ?_
  refine m_get C w (k := 36) (j := 2) (v := .ref (r (39))) flX6_16 (by decide) rfl rfl dX6_addBlock_7 ?_
  refine lv_iconst (v := 0) C.1 C.2.1 dX6_addBlock_10 (by decide) ?_
  refine m_csi C w hl csX6_24 (As := [.ref (r (39)), .int 0]) (rest := [.long (M.2 38 0)]) (c_X1_loadLittle l D b0 r M 39 0 (by decide) rfl (by decide) (by omega)) rfl rfl (Nat.le_of_ble_eq_true rfl) ⟨Nat.le_of_ble_eq_true rfl, Nat.le_of_ble_eq_true rfl⟩ ⟨Nat.zero_le _, Nat.zero_le _⟩ dX6_addBlock_11 (fun v_1 M9 H locs e9 w => ?_)
  obtain ⟨ev_1, e9⟩ := e9
  rw [e9] at w
  subst ev_1
  refine lv_ldc (v := (67108863)) C.1 C.2.1 C.2.2.2.1 (C.2.2.2.2.1 _ kkX6_30) dX6_addBlock_14 ?_
  refine lv_iand C.1 C.2.1 dX6_addBlock_16 ?_
  refine lv_i2l (v := (((f_X1_loadLittle 39 0 M) &&& (67108863 : Int32)) : Int32).toInt64) C.1 C.2.1 dX6_addBlock_17 rfl ?_
  refine lv_ladd C.1 C.2.1 dX6_addBlock_18 ?_
  refine lv_topl (fun x1_2 ex1_2 => ?_)
  refine lv_lstore_n (lv' := [(1, .long (x1_2)), (0, .ref (r (36)))]) C.1 C.2.1 dX6_addBlock_19 rfl hl (by decide) rfl (fun ls hl => ?_)
  refine lv_aload_n C.1 C.2.1 dX6_addBlock_20 rfl (lv_at hl 1 rfl) ?_
  refine m_get C w (k := 36) (j := 1) (v := .ref (r (38))) flX6_13 (by decide) rfl rfl dX6_addBlock_21 ?_
  refine lv_iconst (v := 1) C.1 C.2.1 dX6_addBlock_24 (by decide) ?_
  refine m_lald C w (k := 38) (i := 1) (n := 5) (wr := true) (by decide) rfl (by omega) (by decide) dX6_addBlock_25 ?_
  refine lv_aload_n C.1 C.2.1 dX6_addBlock_26 rfl (lv_at hl 1 rfl) ?_
  refine m_get C w (k := 36) (j := 2) (v := .ref (r (39))) flX6_16 (by decide) rfl rfl dX6_addBlock_27 ?_
  refine lv_iconst (v := 3) C.1 C.2.1 dX6_addBlock_30 (by decide) ?_
  refine m_csi C w hl csX6_24 (As := [.ref (r (39)), .int 3]) (rest := [.long (M.2 38 1)]) (c_X1_loadLittle l D b0 r M 39 3 (by decide) rfl (by decide) (by omega)) rfl rfl (Nat.le_of_ble_eq_true rfl) ⟨Nat.le_of_ble_eq_true rfl, Nat.le_of_ble_eq_true rfl⟩ ⟨Nat.zero_le _, Nat.zero_le _⟩ dX6_addBlock_31 (fun v_3 M9 H locs e9 w => ?_)
  obtain ⟨ev_3, e9⟩ := e9
  rw [e9] at w
  subst ev_3
  refine lv_iconst (v := 2) C.1 C.2.1 dX6_addBlock_34 (by decide) ?_
  refine lv_iushr (v := mm_us (f_X1_loadLittle 39 3 M) (2 : Int32)) C.1 C.2.1 dX6_addBlock_35 rfl ?_
  refine lv_ldc (v := (67108863)) C.1 C.2.1 C.2.2.2.1 (C.2.2.2.2.1 _ kkX6_30) dX6_addBlock_36 ?_
  refine lv_iand C.1 C.2.1 dX6_addBlock_38 ?_
  refine lv_i2l (v := (((mm_us (f_X1_loadLittle 39 3 M) (2 : Int32)) &&& (67108863 : Int32)) : Int32).toInt64) C.1 C.2.1 dX6_addBlock_39 rfl ?_
  refine lv_ladd C.1 C.2.1 dX6_addBlock_40 ?_
  refine lv_topl (fun x3_4 ex3_4 => ?_)
  refine lv_lstore_n (lv' := [(3, .long (x3_4)), (1, .long (x1_2)), (0, .ref (r (36)))]) C.1 C.2.1 dX6_addBlock_41 rfl hl (by decide) rfl (fun ls hl => ?_)
  refine lv_aload_n C.1 C.2.1 dX6_addBlock_42 rfl (lv_at hl 2 rfl) ?_
  refine m_get C w (k := 36) (j := 1) (v := .ref (r (38))) flX6_13 (by decide) rfl rfl dX6_addBlock_43 ?_
  refine lv_iconst (v := 2) C.1 C.2.1 dX6_addBlock_46 (by decide) ?_
  refine m_lald C w (k := 38) (i := 2) (n := 5) (wr := true) (by decide) rfl (by omega) (by decide) dX6_addBlock_47 ?_
  refine lv_aload_n C.1 C.2.1 dX6_addBlock_48 rfl (lv_at hl 2 rfl) ?_
  refine m_get C w (k := 36) (j := 2) (v := .ref (r (39))) flX6_16 (by decide) rfl rfl dX6_addBlock_49 ?_
  refine lv_bipush (v := 6) C.1 C.2.1 dX6_addBlock_52 (by decide) ?_
  refine m_csi C w hl csX6_24 (As := [.ref (r (39)), .int 6]) (rest := [.long (M.2 38 2)]) (c_X1_loadLittle l D b0 r M 39 6 (by decide) rfl (by decide) (by omega)) rfl rfl (Nat.le_of_ble_eq_true rfl) ⟨Nat.le_of_ble_eq_true rfl, Nat.le_of_ble_eq_true rfl⟩ ⟨Nat.zero_le _, Nat.zero_le _⟩ dX6_addBlock_54 (fun v_5 M9 H locs e9 w => ?_)
  obtain ⟨ev_5, e9⟩ := e9
  rw [e9] at w
  subst ev_5
  refine lv_iconst (v := 4) C.1 C.2.1 dX6_addBlock_57 (by decide) ?_
  refine lv_iushr (v := mm_us (f_X1_loadLittle 39 6 M) (4 : Int32)) C.1 C.2.1 dX6_addBlock_58 rfl ?_
  refine lv_ldc (v := (67108863)) C.1 C.2.1 C.2.2.2.1 (C.2.2.2.2.1 _ kkX6_30) dX6_addBlock_59 ?_
  refine lv_iand C.1 C.2.1 dX6_addBlock_61 ?_
  refine lv_i2l (v := (((mm_us (f_X1_loadLittle 39 6 M) (4 : Int32)) &&& (67108863 : Int32)) : Int32).toInt64) C.1 C.2.1 dX6_addBlock_62 rfl ?_
  refine lv_ladd C.1 C.2.1 dX6_addBlock_63 ?_
  refine lv_topl (fun x5_6 ex5_6 => ?_)
  refine lv_lstore (lv' := [(5, .long (x5_6)), (3, .long (x3_4)), (1, .long (x1_2)), (0, .ref (r (36)))]) C.1 C.2.1 dX6_addBlock_64 hl (by decide) rfl (fun ls hl => ?_)
  refine lv_aload_n C.1 C.2.1 dX6_addBlock_66 rfl (lv_at hl 3 rfl) ?_
  refine m_get C w (k := 36) (j := 1) (v := .ref (r (38))) flX6_13 (by decide) rfl rfl dX6_addBlock_67 ?_
  refine lv_iconst (v := 3) C.1 C.2.1 dX6_addBlock_70 (by decide) ?_
  refine m_lald C w (k := 38) (i := 3) (n := 5) (wr := true) (by decide) rfl (by omega) (by decide) dX6_addBlock_71 ?_
  refine lv_aload_n C.1 C.2.1 dX6_addBlock_72 rfl (lv_at hl 3 rfl) ?_
  refine m_get C w (k := 36) (j := 2) (v := .ref (r (39))) flX6_16 (by decide) rfl rfl dX6_addBlock_73 ?_
  refine lv_bipush (v := 9) C.1 C.2.1 dX6_addBlock_76 (by decide) ?_
  refine m_csi C w hl csX6_24 (As := [.ref (r (39)), .int 9]) (rest := [.long (M.2 38 3)]) (c_X1_loadLittle l D b0 r M 39 9 (by decide) rfl (by decide) (by omega)) rfl rfl (Nat.le_of_ble_eq_true rfl) ⟨Nat.le_of_ble_eq_true rfl, Nat.le_of_ble_eq_true rfl⟩ ⟨Nat.zero_le _, Nat.zero_le _⟩ dX6_addBlock_78 (fun v_7 M9 H locs e9 w => ?_)
  obtain ⟨ev_7, e9⟩ := e9
  rw [e9] at w
  subst ev_7
  refine lv_bipush (v := 6) C.1 C.2.1 dX6_addBlock_81 (by decide) ?_
  refine lv_iushr (v := mm_us (f_X1_loadLittle 39 9 M) (6 : Int32)) C.1 C.2.1 dX6_addBlock_83 rfl ?_
  refine lv_ldc (v := (67108863)) C.1 C.2.1 C.2.2.2.1 (C.2.2.2.2.1 _ kkX6_30) dX6_addBlock_84 ?_
  refine lv_iand C.1 C.2.1 dX6_addBlock_86 ?_
  refine lv_i2l (v := (((mm_us (f_X1_loadLittle 39 9 M) (6 : Int32)) &&& (67108863 : Int32)) : Int32).toInt64) C.1 C.2.1 dX6_addBlock_87 rfl ?_
  refine lv_ladd C.1 C.2.1 dX6_addBlock_88 ?_
  refine lv_topl (fun x7_8 ex7_8 => ?_)
  refine lv_lstore (lv' := [(7, .long (x7_8)), (5, .long (x5_6)), (3, .long (x3_4)), (1, .long (x1_2)), (0, .ref (r (36)))]) C.1 C.2.1 dX6_addBlock_89 hl (by decide) rfl (fun ls hl => ?_)
  refine lv_aload_n C.1 C.2.1 dX6_addBlock_91 rfl (lv_at hl 4 rfl) ?_
  refine m_get C w (k := 36) (j := 1) (v := .ref (r (38))) flX6_13 (by decide) rfl rfl dX6_addBlock_92 ?_
  refine lv_iconst (v := 4) C.1 C.2.1 dX6_addBlock_95 (by decide) ?_
  refine m_lald C w (k := 38) (i := 4) (n := 5) (wr := true) (by decide) rfl (by omega) (by decide) dX6_addBlock_96 ?_
  refine lv_aload_n C.1 C.2.1 dX6_addBlock_97 rfl (lv_at hl 4 rfl) ?_
  refine m_get C w (k := 36) (j := 2) (v := .ref (r (39))) flX6_16 (by decide) rfl rfl dX6_addBlock_98 ?_
  refine lv_bipush (v := 12) C.1 C.2.1 dX6_addBlock_101 (by decide) ?_
  refine m_csi C w hl csX6_24 (As := [.ref (r (39)), .int 12]) (rest := [.long (M.2 38 4)]) (c_X1_loadLittle l D b0 r M 39 12 (by decide) rfl (by decide) (by omega)) rfl rfl (Nat.le_of_ble_eq_true rfl) ⟨Nat.le_of_ble_eq_true rfl, Nat.le_of_ble_eq_true rfl⟩ ⟨Nat.zero_le _, Nat.zero_le _⟩ dX6_addBlock_103 (fun v_9 M9 H locs e9 w => ?_)
  obtain ⟨ev_9, e9⟩ := e9
  rw [e9] at w
  subst ev_9
  refine lv_bipush (v := 8) C.1 C.2.1 dX6_addBlock_106 (by decide) ?_
  refine lv_iushr (v := mm_us (f_X1_loadLittle 39 12 M) (8 : Int32)) C.1 C.2.1 dX6_addBlock_108 rfl ?_
  refine lv_ldc (v := (16777216)) C.1 C.2.1 C.2.2.2.1 (C.2.2.2.2.1 _ kkX6_47) dX6_addBlock_109 ?_
  refine lv_ior C.1 C.2.1 dX6_addBlock_111 ?_
  refine lv_i2l (v := (((mm_us (f_X1_loadLittle 39 12 M) (8 : Int32)) ||| (16777216 : Int32)) : Int32).toInt64) C.1 C.2.1 dX6_addBlock_112 rfl ?_
  refine lv_ladd C.1 C.2.1 dX6_addBlock_113 ?_
  refine lv_topl (fun x9_10 ex9_10 => ?_)
  refine lv_lstore (lv' := [(9, .long (x9_10)), (7, .long (x7_8)), (5, .long (x5_6)), (3, .long (x3_4)), (1, .long (x1_2)), (0, .ref (r (36)))]) C.1 C.2.1 dX6_addBlock_114 hl (by decide) rfl (fun ls hl => ?_)
  refine lv_aload_n C.1 C.2.1 dX6_addBlock_116 rfl (lv_at hl 5 rfl) ?_
  refine m_get C w (k := 36) (j := 0) (v := .ref (r (37))) flX6_7 (by decide) rfl rfl dX6_addBlock_117 ?_
  refine lv_iconst (v := 0) C.1 C.2.1 dX6_addBlock_120 (by decide) ?_
  refine m_lald C w (k := 37) (i := 0) (n := 5) (wr := true) (by decide) rfl (by omega) (by decide) dX6_addBlock_121 ?_
  refine lv_topl (fun x11_11 ex11_11 => ?_)
  refine lv_lstore (lv' := [(11, .long (x11_11)), (9, .long (x9_10)), (7, .long (x7_8)), (5, .long (x5_6)), (3, .long (x3_4)), (1, .long (x1_2)), (0, .ref (r (36)))]) C.1 C.2.1 dX6_addBlock_122 hl (by decide) rfl (fun ls hl => ?_)
  refine lv_aload_n C.1 C.2.1 dX6_addBlock_124 rfl (lv_at hl 6 rfl) ?_
  refine m_get C w (k := 36) (j := 0) (v := .ref (r (37))) flX6_7 (by decide) rfl rfl dX6_addBlock_125 ?_
  refine lv_iconst (v := 1) C.1 C.2.1 dX6_addBlock_128 (by decide) ?_
  refine m_lald C w (k := 37) (i := 1) (n := 5) (wr := true) (by decide) rfl (by omega) (by decide) dX6_addBlock_129 ?_
  refine lv_topl (fun x13_12 ex13_12 => ?_)
  refine lv_lstore (lv' := [(13, .long (x13_12)), (11, .long (x11_11)), (9, .long (x9_10)), (7, .long (x7_8)), (5, .long (x5_6)), (3, .long (x3_4)), (1, .long (x1_2)), (0, .ref (r (36)))]) C.1 C.2.1 dX6_addBlock_130 hl (by decide) rfl (fun ls hl => ?_)
  refine lv_aload_n C.1 C.2.1 dX6_addBlock_132 rfl (lv_at hl 7 rfl) ?_
  refine m_get C w (k := 36) (j := 0) (v := .ref (r (37))) flX6_7 (by decide) rfl rfl dX6_addBlock_133 ?_
  refine lv_iconst (v := 2) C.1 C.2.1 dX6_addBlock_136 (by decide) ?_
  refine m_lald C w (k := 37) (i := 2) (n := 5) (wr := true) (by decide) rfl (by omega) (by decide) dX6_addBlock_137 ?_
  refine lv_topl (fun x15_13 ex15_13 => ?_)
  refine lv_lstore (lv' := [(15, .long (x15_13)), (13, .long (x13_12)), (11, .long (x11_11)), (9, .long (x9_10)), (7, .long (x7_8)), (5, .long (x5_6)), (3, .long (x3_4)), (1, .long (x1_2)), (0, .ref (r (36)))]) C.1 C.2.1 dX6_addBlock_138 hl (by decide) rfl (fun ls hl => ?_)
  refine lv_aload_n C.1 C.2.1 dX6_addBlock_140 rfl (lv_at hl 8 rfl) ?_
  refine m_get C w (k := 36) (j := 0) (v := .ref (r (37))) flX6_7 (by decide) rfl rfl dX6_addBlock_141 ?_
  refine lv_iconst (v := 3) C.1 C.2.1 dX6_addBlock_144 (by decide) ?_
  refine m_lald C w (k := 37) (i := 3) (n := 5) (wr := true) (by decide) rfl (by omega) (by decide) dX6_addBlock_145 ?_
  refine lv_topl (fun x17_14 ex17_14 => ?_)
  refine lv_lstore (lv' := [(17, .long (x17_14)), (15, .long (x15_13)), (13, .long (x13_12)), (11, .long (x11_11)), (9, .long (x9_10)), (7, .long (x7_8)), (5, .long (x5_6)), (3, .long (x3_4)), (1, .long (x1_2)), (0, .ref (r (36)))]) C.1 C.2.1 dX6_addBlock_146 hl (by decide) rfl (fun ls hl => ?_)
  refine lv_aload_n C.1 C.2.1 dX6_addBlock_148 rfl (lv_at hl 9 rfl) ?_
  refine m_get C w (k := 36) (j := 0) (v := .ref (r (37))) flX6_7 (by decide) rfl rfl dX6_addBlock_149 ?_
  refine lv_iconst (v := 4) C.1 C.2.1 dX6_addBlock_152 (by decide) ?_
  refine m_lald C w (k := 37) (i := 4) (n := 5) (wr := true) (by decide) rfl (by omega) (by decide) dX6_addBlock_153 ?_
  refine lv_topl (fun x19_15 ex19_15 => ?_)
  refine lv_lstore (lv' := [(19, .long (x19_15)), (17, .long (x17_14)), (15, .long (x15_13)), (13, .long (x13_12)), (11, .long (x11_11)), (9, .long (x9_10)), (7, .long (x7_8)), (5, .long (x5_6)), (3, .long (x3_4)), (1, .long (x1_2)), (0, .ref (r (36)))]) C.1 C.2.1 dX6_addBlock_154 hl (by decide) rfl (fun ls hl => ?_)
  refine lv_ldc2 (v := (5)) C.1 C.2.1 C.2.2.2.1 (C.2.2.2.2.1 _ klX6_48) dX6_addBlock_156 ?_
  refine lv_lload C.1 C.2.1 dX6_addBlock_159 (lv_at hl 3 rfl) ?_
  refine lv_lmul C.1 C.2.1 dX6_addBlock_161 ?_
  refine lv_topl (fun x21_16 ex21_16 => ?_)
  refine lv_lstore (lv' := [(21, .long (x21_16)), (19, .long (x19_15)), (17, .long (x17_14)), (15, .long (x15_13)), (13, .long (x13_12)), (11, .long (x11_11)), (9, .long (x9_10)), (7, .long (x7_8)), (5, .long (x5_6)), (3, .long (x3_4)), (1, .long (x1_2)), (0, .ref (r (36)))]) C.1 C.2.1 dX6_addBlock_162 hl (by decide) rfl (fun ls hl => ?_)
  refine lv_ldc2 (v := (5)) C.1 C.2.1 C.2.2.2.1 (C.2.2.2.2.1 _ klX6_48) dX6_addBlock_164 ?_
  refine lv_lload C.1 C.2.1 dX6_addBlock_167 (lv_at hl 3 rfl) ?_
  refine lv_lmul C.1 C.2.1 dX6_addBlock_169 ?_
  refine lv_topl (fun x23_17 ex23_17 => ?_)
  refine lv_lstore (lv' := [(23, .long (x23_17)), (21, .long (x21_16)), (19, .long (x19_15)), (17, .long (x17_14)), (15, .long (x15_13)), (13, .long (x13_12)), (11, .long (x11_11)), (9, .long (x9_10)), (7, .long (x7_8)), (5, .long (x5_6)), (3, .long (x3_4)), (1, .long (x1_2)), (0, .ref (r (36)))]) C.1 C.2.1 dX6_addBlock_170 hl (by decide) rfl (fun ls hl => ?_)
  refine lv_ldc2 (v := (5)) C.1 C.2.1 C.2.2.2.1 (C.2.2.2.2.1 _ klX6_48) dX6_addBlock_172 ?_
  refine lv_lload C.1 C.2.1 dX6_addBlock_175 (lv_at hl 3 rfl) ?_
  refine lv_lmul C.1 C.2.1 dX6_addBlock_177 ?_
  refine lv_topl (fun x25_18 ex25_18 => ?_)
  refine lv_lstore (lv' := [(25, .long (x25_18)), (23, .long (x23_17)), (21, .long (x21_16)), (19, .long (x19_15)), (17, .long (x17_14)), (15, .long (x15_13)), (13, .long (x13_12)), (11, .long (x11_11)), (9, .long (x9_10)), (7, .long (x7_8)), (5, .long (x5_6)), (3, .long (x3_4)), (1, .long (x1_2)), (0, .ref (r (36)))]) C.1 C.2.1 dX6_addBlock_178 hl (by decide) rfl (fun ls hl => ?_)
  refine lv_ldc2 (v := (5)) C.1 C.2.1 C.2.2.2.1 (C.2.2.2.2.1 _ klX6_48) dX6_addBlock_180 ?_
  refine lv_lload C.1 C.2.1 dX6_addBlock_183 (lv_at hl 3 rfl) ?_
  refine lv_lmul C.1 C.2.1 dX6_addBlock_185 ?_
  refine lv_topl (fun x27_19 ex27_19 => ?_)
  refine lv_lstore (lv' := [(27, .long (x27_19)), (25, .long (x25_18)), (23, .long (x23_17)), (21, .long (x21_16)), (19, .long (x19_15)), (17, .long (x17_14)), (15, .long (x15_13)), (13, .long (x13_12)), (11, .long (x11_11)), (9, .long (x9_10)), (7, .long (x7_8)), (5, .long (x5_6)), (3, .long (x3_4)), (1, .long (x1_2)), (0, .ref (r (36)))]) C.1 C.2.1 dX6_addBlock_186 hl (by decide) rfl (fun ls hl => ?_)
  refine lv_aload_n C.1 C.2.1 dX6_addBlock_188 rfl (lv_at hl 14 rfl) ?_
  refine m_get C w (k := 36) (j := 1) (v := .ref (r (38))) flX6_13 (by decide) rfl rfl dX6_addBlock_189 ?_
  refine lv_iconst (v := 0) C.1 C.2.1 dX6_addBlock_192 (by decide) ?_
  refine lv_lload_n C.1 C.2.1 dX6_addBlock_193 rfl (lv_at hl 13 rfl) ?_
  refine lv_lload C.1 C.2.1 dX6_addBlock_194 (lv_at hl 8 rfl) ?_
  refine lv_lmul C.1 C.2.1 dX6_addBlock_196 ?_
  refine lv_lload_n C.1 C.2.1 dX6_addBlock_197 rfl (lv_at hl 12 rfl) ?_
  refine lv_lload C.1 C.2.1 dX6_addBlock_198 (lv_at hl 0 rfl) ?_
  refine lv_lmul C.1 C.2.1 dX6_addBlock_200 ?_
  refine lv_ladd C.1 C.2.1 dX6_addBlock_201 ?_
  refine lv_lload C.1 C.2.1 dX6_addBlock_202 (lv_at hl 11 rfl) ?_
  refine lv_lload C.1 C.2.1 dX6_addBlock_204 (lv_at hl 1 rfl) ?_
  refine lv_lmul C.1 C.2.1 dX6_addBlock_206 ?_
  refine lv_ladd C.1 C.2.1 dX6_addBlock_207 ?_
  refine lv_lload C.1 C.2.1 dX6_addBlock_208 (lv_at hl 10 rfl) ?_
  refine lv_lload C.1 C.2.1 dX6_addBlock_210 (lv_at hl 2 rfl) ?_
  refine lv_lmul C.1 C.2.1 dX6_addBlock_212 ?_
  refine lv_ladd C.1 C.2.1 dX6_addBlock_213 ?_
  refine lv_lload C.1 C.2.1 dX6_addBlock_214 (lv_at hl 9 rfl) ?_
  refine lv_lload C.1 C.2.1 dX6_addBlock_216 (lv_at hl 3 rfl) ?_
  refine lv_lmul C.1 C.2.1 dX6_addBlock_218 ?_
  refine lv_ladd C.1 C.2.1 dX6_addBlock_219 ?_
  refine m_last C w (k := 38) (i := 0) (n := 5) (x := ((((((x1_2) * (x11_11)) + ((x3_4) * (x27_19))) + ((x5_6) * (x25_18))) + ((x7_8) * (x23_17))) + ((x9_10) * (x21_16)))) (by decide) rfl (by omega) (by decide) dX6_addBlock_220 (fun H locs w => ?_)
  obtain ⟨M_20, eM_20⟩ : ∃ zz, zz = mm_wl M 38 0 ((((((x1_2) * (x11_11)) + ((x3_4) * (x27_19))) + ((x5_6) * (x25_18))) + ((x7_8) * (x23_17))) + ((x9_10) * (x21_16))) := ⟨_, rfl⟩
  rw [← eM_20] at w
  refine lv_aload_n C.1 C.2.1 dX6_addBlock_221 rfl (lv_at hl 14 rfl) ?_
  refine m_get C w (k := 36) (j := 1) (v := .ref (r (38))) flX6_13 (by decide) rfl rfl dX6_addBlock_222 ?_
  refine lv_iconst (v := 1) C.1 C.2.1 dX6_addBlock_225 (by decide) ?_
  refine lv_lload_n C.1 C.2.1 dX6_addBlock_226 rfl (lv_at hl 13 rfl) ?_
  refine lv_lload C.1 C.2.1 dX6_addBlock_227 (lv_at hl 7 rfl) ?_
  refine lv_lmul C.1 C.2.1 dX6_addBlock_229 ?_
  refine lv_lload_n C.1 C.2.1 dX6_addBlock_230 rfl (lv_at hl 12 rfl) ?_
  refine lv_lload C.1 C.2.1 dX6_addBlock_231 (lv_at hl 8 rfl) ?_
  refine lv_lmul C.1 C.2.1 dX6_addBlock_233 ?_
  refine lv_ladd C.1 C.2.1 dX6_addBlock_234 ?_
  refine lv_lload C.1 C.2.1 dX6_addBlock_235 (lv_at hl 11 rfl) ?_
  refine lv_lload C.1 C.2.1 dX6_addBlock_237 (lv_at hl 0 rfl) ?_
  refine lv_lmul C.1 C.2.1 dX6_addBlock_239 ?_
  refine lv_ladd C.1 C.2.1 dX6_addBlock_240 ?_
  refine lv_lload C.1 C.2.1 dX6_addBlock_241 (lv_at hl 10 rfl) ?_
  refine lv_lload C.1 C.2.1 dX6_addBlock_243 (lv_at hl 1 rfl) ?_
  refine lv_lmul C.1 C.2.1 dX6_addBlock_245 ?_
  refine lv_ladd C.1 C.2.1 dX6_addBlock_246 ?_
  refine lv_lload C.1 C.2.1 dX6_addBlock_247 (lv_at hl 9 rfl) ?_
  refine lv_lload C.1 C.2.1 dX6_addBlock_249 (lv_at hl 2 rfl) ?_
  refine lv_lmul C.1 C.2.1 dX6_addBlock_251 ?_
  refine lv_ladd C.1 C.2.1 dX6_addBlock_252 ?_
  refine m_last C w (k := 38) (i := 1) (n := 5) (x := ((((((x1_2) * (x13_12)) + ((x3_4) * (x11_11))) + ((x5_6) * (x27_19))) + ((x7_8) * (x25_18))) + ((x9_10) * (x23_17)))) (by decide) rfl (by omega) (by decide) dX6_addBlock_253 (fun H locs w => ?_)
  obtain ⟨M_21, eM_21⟩ : ∃ zz, zz = mm_wl M_20 38 1 ((((((x1_2) * (x13_12)) + ((x3_4) * (x11_11))) + ((x5_6) * (x27_19))) + ((x7_8) * (x25_18))) + ((x9_10) * (x23_17))) := ⟨_, rfl⟩
  rw [← eM_21] at w
  refine lv_aload_n C.1 C.2.1 dX6_addBlock_254 rfl (lv_at hl 14 rfl) ?_
  refine m_get C w (k := 36) (j := 1) (v := .ref (r (38))) flX6_13 (by decide) rfl rfl dX6_addBlock_255 ?_
  refine lv_iconst (v := 2) C.1 C.2.1 dX6_addBlock_258 (by decide) ?_
  refine lv_lload_n C.1 C.2.1 dX6_addBlock_259 rfl (lv_at hl 13 rfl) ?_
  refine lv_lload C.1 C.2.1 dX6_addBlock_260 (lv_at hl 6 rfl) ?_
  refine lv_lmul C.1 C.2.1 dX6_addBlock_262 ?_
  refine lv_lload_n C.1 C.2.1 dX6_addBlock_263 rfl (lv_at hl 12 rfl) ?_
  refine lv_lload C.1 C.2.1 dX6_addBlock_264 (lv_at hl 7 rfl) ?_
  refine lv_lmul C.1 C.2.1 dX6_addBlock_266 ?_
  refine lv_ladd C.1 C.2.1 dX6_addBlock_267 ?_
  refine lv_lload C.1 C.2.1 dX6_addBlock_268 (lv_at hl 11 rfl) ?_
  refine lv_lload C.1 C.2.1 dX6_addBlock_270 (lv_at hl 8 rfl) ?_
  refine lv_lmul C.1 C.2.1 dX6_addBlock_272 ?_
  refine lv_ladd C.1 C.2.1 dX6_addBlock_273 ?_
  refine lv_lload C.1 C.2.1 dX6_addBlock_274 (lv_at hl 10 rfl) ?_
  refine lv_lload C.1 C.2.1 dX6_addBlock_276 (lv_at hl 0 rfl) ?_
  refine lv_lmul C.1 C.2.1 dX6_addBlock_278 ?_
  refine lv_ladd C.1 C.2.1 dX6_addBlock_279 ?_
  refine lv_lload C.1 C.2.1 dX6_addBlock_280 (lv_at hl 9 rfl) ?_
  refine lv_lload C.1 C.2.1 dX6_addBlock_282 (lv_at hl 1 rfl) ?_
  refine lv_lmul C.1 C.2.1 dX6_addBlock_284 ?_
  refine lv_ladd C.1 C.2.1 dX6_addBlock_285 ?_
  refine m_last C w (k := 38) (i := 2) (n := 5) (x := ((((((x1_2) * (x15_13)) + ((x3_4) * (x13_12))) + ((x5_6) * (x11_11))) + ((x7_8) * (x27_19))) + ((x9_10) * (x25_18)))) (by decide) rfl (by omega) (by decide) dX6_addBlock_286 (fun H locs w => ?_)
  obtain ⟨M_22, eM_22⟩ : ∃ zz, zz = mm_wl M_21 38 2 ((((((x1_2) * (x15_13)) + ((x3_4) * (x13_12))) + ((x5_6) * (x11_11))) + ((x7_8) * (x27_19))) + ((x9_10) * (x25_18))) := ⟨_, rfl⟩
  rw [← eM_22] at w
  refine lv_aload_n C.1 C.2.1 dX6_addBlock_287 rfl (lv_at hl 14 rfl) ?_
  refine m_get C w (k := 36) (j := 1) (v := .ref (r (38))) flX6_13 (by decide) rfl rfl dX6_addBlock_288 ?_
  refine lv_iconst (v := 3) C.1 C.2.1 dX6_addBlock_291 (by decide) ?_
  refine lv_lload_n C.1 C.2.1 dX6_addBlock_292 rfl (lv_at hl 13 rfl) ?_
  refine lv_lload C.1 C.2.1 dX6_addBlock_293 (lv_at hl 5 rfl) ?_
  refine lv_lmul C.1 C.2.1 dX6_addBlock_295 ?_
  refine lv_lload_n C.1 C.2.1 dX6_addBlock_296 rfl (lv_at hl 12 rfl) ?_
  refine lv_lload C.1 C.2.1 dX6_addBlock_297 (lv_at hl 6 rfl) ?_
  refine lv_lmul C.1 C.2.1 dX6_addBlock_299 ?_
  refine lv_ladd C.1 C.2.1 dX6_addBlock_300 ?_
  refine lv_lload C.1 C.2.1 dX6_addBlock_301 (lv_at hl 11 rfl) ?_
  refine lv_lload C.1 C.2.1 dX6_addBlock_303 (lv_at hl 7 rfl) ?_
  refine lv_lmul C.1 C.2.1 dX6_addBlock_305 ?_
  refine lv_ladd C.1 C.2.1 dX6_addBlock_306 ?_
  refine lv_lload C.1 C.2.1 dX6_addBlock_307 (lv_at hl 10 rfl) ?_
  refine lv_lload C.1 C.2.1 dX6_addBlock_309 (lv_at hl 8 rfl) ?_
  refine lv_lmul C.1 C.2.1 dX6_addBlock_311 ?_
  refine lv_ladd C.1 C.2.1 dX6_addBlock_312 ?_
  refine lv_lload C.1 C.2.1 dX6_addBlock_313 (lv_at hl 9 rfl) ?_
  refine lv_lload C.1 C.2.1 dX6_addBlock_315 (lv_at hl 0 rfl) ?_
  refine lv_lmul C.1 C.2.1 dX6_addBlock_317 ?_
  refine lv_ladd C.1 C.2.1 dX6_addBlock_318 ?_
  refine m_last C w (k := 38) (i := 3) (n := 5) (x := ((((((x1_2) * (x17_14)) + ((x3_4) * (x15_13))) + ((x5_6) * (x13_12))) + ((x7_8) * (x11_11))) + ((x9_10) * (x27_19)))) (by decide) rfl (by omega) (by decide) dX6_addBlock_319 (fun H locs w => ?_)
  obtain ⟨M_23, eM_23⟩ : ∃ zz, zz = mm_wl M_22 38 3 ((((((x1_2) * (x17_14)) + ((x3_4) * (x15_13))) + ((x5_6) * (x13_12))) + ((x7_8) * (x11_11))) + ((x9_10) * (x27_19))) := ⟨_, rfl⟩
  rw [← eM_23] at w
  refine lv_aload_n C.1 C.2.1 dX6_addBlock_320 rfl (lv_at hl 14 rfl) ?_
  refine m_get C w (k := 36) (j := 1) (v := .ref (r (38))) flX6_13 (by decide) rfl rfl dX6_addBlock_321 ?_
  refine lv_iconst (v := 4) C.1 C.2.1 dX6_addBlock_324 (by decide) ?_
  refine lv_lload_n C.1 C.2.1 dX6_addBlock_325 rfl (lv_at hl 13 rfl) ?_
  refine lv_lload C.1 C.2.1 dX6_addBlock_326 (lv_at hl 4 rfl) ?_
  refine lv_lmul C.1 C.2.1 dX6_addBlock_328 ?_
  refine lv_lload_n C.1 C.2.1 dX6_addBlock_329 rfl (lv_at hl 12 rfl) ?_
  refine lv_lload C.1 C.2.1 dX6_addBlock_330 (lv_at hl 5 rfl) ?_
  refine lv_lmul C.1 C.2.1 dX6_addBlock_332 ?_
  refine lv_ladd C.1 C.2.1 dX6_addBlock_333 ?_
  refine lv_lload C.1 C.2.1 dX6_addBlock_334 (lv_at hl 11 rfl) ?_
  refine lv_lload C.1 C.2.1 dX6_addBlock_336 (lv_at hl 6 rfl) ?_
  refine lv_lmul C.1 C.2.1 dX6_addBlock_338 ?_
  refine lv_ladd C.1 C.2.1 dX6_addBlock_339 ?_
  refine lv_lload C.1 C.2.1 dX6_addBlock_340 (lv_at hl 10 rfl) ?_
  refine lv_lload C.1 C.2.1 dX6_addBlock_342 (lv_at hl 7 rfl) ?_
  refine lv_lmul C.1 C.2.1 dX6_addBlock_344 ?_
  refine lv_ladd C.1 C.2.1 dX6_addBlock_345 ?_
  refine lv_lload C.1 C.2.1 dX6_addBlock_346 (lv_at hl 9 rfl) ?_
  refine lv_lload C.1 C.2.1 dX6_addBlock_348 (lv_at hl 8 rfl) ?_
  refine lv_lmul C.1 C.2.1 dX6_addBlock_350 ?_
  refine lv_ladd C.1 C.2.1 dX6_addBlock_351 ?_
  refine m_last C w (k := 38) (i := 4) (n := 5) (x := ((((((x1_2) * (x19_15)) + ((x3_4) * (x17_14))) + ((x5_6) * (x15_13))) + ((x7_8) * (x13_12))) + ((x9_10) * (x11_11)))) (by decide) rfl (by omega) (by decide) dX6_addBlock_352 (fun H locs w => ?_)
  obtain ⟨M_24, eM_24⟩ : ∃ zz, zz = mm_wl M_23 38 4 ((((((x1_2) * (x19_15)) + ((x3_4) * (x17_14))) + ((x5_6) * (x15_13))) + ((x7_8) * (x13_12))) + ((x9_10) * (x11_11))) := ⟨_, rfl⟩
  rw [← eM_24] at w
  refine lv_aload_n C.1 C.2.1 dX6_addBlock_353 rfl (lv_at hl 14 rfl) ?_
  refine m_cvv C w hl cvX6_50 (k := 36) (by decide) rfl (q := (RX6, TX6, 4)) rfl rfl (As := []) (rest := []) (c_X6_carry l D b0 r M_24  ) rfl rfl (Nat.le_of_ble_eq_true rfl) ⟨Nat.le_of_ble_eq_true rfl, Nat.le_of_ble_eq_true rfl⟩ ⟨Nat.zero_le _, Nat.zero_le _⟩ dX6_addBlock_354 (fun M_25 H locs eM_25 w => ?_)
  exact m_vret C w (by subst ex1_2 ex3_4 ex5_6 ex7_8 ex9_10 ex11_11 ex13_12 ex15_13 ex17_14 ex19_15 ex21_16 ex23_17 ex25_18 ex27_19 eM_20 eM_21 eM_22 eM_23 eM_24 eM_25; exact Eq.symm (rfl)) dX6_addBlock_357

def f_X6_reduce_L45  (σ : mm_M) : Nat → mm_M
  | 0 => σ
  | t + 1 =>
  let M_7 := f_X6_reduce_L45 σ t
  let M_9 := mm_wl M_7 38 (t + 1) ((M_7.2 38 (t + 1)) + (mm_ul (M_7.2 38 t) (26 : Int32)))
  let M_10 := mm_wl M_9 38 t ((M_9.2 38 t) &&& (67108863))
  M_10
theorem w_f_X6_reduce_L45  (σ : mm_M) : ∀ t : Nat, mm_fr [38] σ (f_X6_reduce_L45 σ t)
  | 0 => mm_fr_refl _ _
  | t + 1 => have ih := w_f_X6_reduce_L45 σ t
    (mm_fr_wl (by simp) (mm_fr_wl (by simp) ih))
def f_X6_reduce_L6 (M : mm_M) (σ : Int64) : Nat → Int64
  | 0 => σ
  | t + 1 =>
  let y_11 := f_X6_reduce_L6 M σ t
  let x1_13 := mm_ul ((M.2 38 t) + (y_11)) (26 : Int32)
  (x1_13)
def f_X6_reduce  (M : mm_M) : mm_M :=
  let y_1 := f_X6_reduce_L6 M (5) 5
  let M_3 := mm_wl M 38 0 ((M.2 38 0) + ((5) * (y_1)))
  let M_4 := f_X6_reduce_L45 M_3 4
  let M_6 := mm_wl M_4 38 4 ((M_4.2 38 4) &&& (67108863))
  M_6
theorem w_f_X6_reduce  (M : mm_M) : mm_fr [38] M (f_X6_reduce  M) := by
  unfold f_X6_reduce
  exact (mm_fr_wl (by simp) ((w_f_X6_reduce_L45 _ 4).on (by simp) (mm_fr_wl (by simp) (mm_fr_refl _ _))))
set_option maxHeartbeats 4000000 in
set_option maxRecDepth 100000 in
theorem c_X6_reduce (l : Launch) (D : va_G) (b0 : Nat) (r : Nat → Nat) (M : mm_M)   : mm_Mv l yX6_reduce cX6_reduce 4 0 0 D b0 r [.ref (r (36))] M (fun M' => M' = f_X6_reduce  M) := by
  refine mm_enter (cc := cX6_reduce) (nL := 4) (ret := none) (by decide) (Nat.le_of_ble_eq_true rfl) ?_
  intro p e s m args below meth c C w ls hl
  have hl : lv_has ls 4 [(0, .ref (r (36)))] := hl
  refine lv_ldc2 (v := (5)) C.1 C.2.1 C.2.2.2.1 (C.2.2.2.2.1 _ klX6_48) dX6_reduce_0 ?_
  refine lv_lstore_n (lv' := [(1, .long (5)), (0, .ref (r (36)))]) C.1 C.2.1 dX6_reduce_3 rfl hl (by decide) rfl (fun ls hl => ?_)
  refine lv_iconst (v := 0) C.1 C.2.1 dX6_reduce_4 (by decide) ?_
  refine lv_istore_n (lv' := [(3, .int 0), (1, .long (5)), (0, .ref (r (36)))]) C.1 C.2.1 dX6_reduce_5 rfl hl (by decide) rfl (fun ls hl => ?_)
  have loop : ∀ (k t : Nat), t + k = 5 → ∀ (H : Heap) (locs : List Loc) (ls : Array Slot), mm_W D b0 r (M) s H locs → lv_has ls 4 [(3, .int (nI (t))), (1, .long (f_X6_reduce_L6 M (5) t)), (0, .ref (r (36)))] → W p l e (mm_rm 0 0) s m args below meth c H locs 0 0 (MQ below (va_Qv (fun M' => M' = f_X6_reduce  M) (mm_U D b0 r) (fun q => b0 ≤ q)) args s 0 0 (fun q => b0 ≤ q)) (F0 m 6 ls []) := by
    intro k
    induction k with
    | zero =>
      intro t ht H locs ls w hl
      obtain rfl : 5 = t := by omega
      obtain ⟨y_1, ey_1⟩ : ∃ zz, zz = f_X6_reduce_L6 M (5) 5 := ⟨_, rfl⟩
      rw [← ey_1] at hl
      refine lv_iload_n C.1 C.2.1 dX6_reduce_6 rfl (lv_at hl 0 rfl) ?_
      refine lv_iconst (v := 5) C.1 C.2.1 dX6_reduce_7 (by decide) ?_
      refine m_icmp_ge (tgt := 29) (a := 5) (b := 5) C (by omega) (by omega) dX6_reduce_8 (by decide) (fun _ => ?_) (fun h_2 => absurd h_2 (by omega))
      refine lv_aload_n C.1 C.2.1 dX6_reduce_29 rfl (lv_at hl 2 rfl) ?_
      refine m_get C w (k := 36) (j := 1) (v := .ref (r (38))) flX6_13 (by decide) rfl rfl dX6_reduce_30 ?_
      refine lv_iconst (v := 0) C.1 C.2.1 dX6_reduce_33 (by decide) ?_
      refine lv_dup2_11 C.1 C.2.1 dX6_reduce_34 rfl rfl ?_
      refine m_lald C w (k := 38) (i := 0) (n := 5) (wr := true) (by decide) rfl (by omega) (by decide) dX6_reduce_35 ?_
      refine lv_ldc2 (v := (5)) C.1 C.2.1 C.2.2.2.1 (C.2.2.2.2.1 _ klX6_48) dX6_reduce_36 ?_
      refine lv_lload_n C.1 C.2.1 dX6_reduce_39 rfl (lv_at hl 1 rfl) ?_
      refine lv_lmul C.1 C.2.1 dX6_reduce_40 ?_
      refine lv_ladd C.1 C.2.1 dX6_reduce_41 ?_
      refine m_last C w (k := 38) (i := 0) (n := 5) (x := ((M.2 38 0) + ((5) * (y_1)))) (by decide) rfl (by omega) (by decide) dX6_reduce_42 (fun H locs w => ?_)
      obtain ⟨M_3, eM_3⟩ : ∃ zz, zz = mm_wl M 38 0 ((M.2 38 0) + ((5) * (y_1))) := ⟨_, rfl⟩
      rw [← eM_3] at w
      refine lv_iconst (v := 0) C.1 C.2.1 dX6_reduce_43 (by decide) ?_
      refine lv_istore_n (lv' := [(3, .int 0), (1, .long (y_1)), (0, .ref (r (36)))]) C.1 C.2.1 dX6_reduce_44 rfl hl (by decide) rfl (fun ls hl => ?_)
      have loop : ∀ (k t : Nat), t + k = 4 → ∀ (H : Heap) (locs : List Loc) (ls : Array Slot), mm_W D b0 r (f_X6_reduce_L45 M_3 t) s H locs → lv_has ls 4 [(3, .int (nI (t))), (1, .long (y_1)), (0, .ref (r (36)))] → W p l e (mm_rm 0 0) s m args below meth c H locs 0 0 (MQ below (va_Qv (fun M' => M' = f_X6_reduce  M) (mm_U D b0 r) (fun q => b0 ≤ q)) args s 0 0 (fun q => b0 ≤ q)) (F0 m 45 ls []) := by
        intro k
        induction k with
        | zero =>
          intro t ht H locs ls w hl
          obtain rfl : 4 = t := by omega
          obtain ⟨M_4, eM_4⟩ : ∃ zz, zz = f_X6_reduce_L45 M_3 4 := ⟨_, rfl⟩
          rw [← eM_4] at w
          refine lv_iload_n C.1 C.2.1 dX6_reduce_45 rfl (lv_at hl 0 rfl) ?_
          refine lv_iconst (v := 4) C.1 C.2.1 dX6_reduce_46 (by decide) ?_
          refine m_icmp_ge (tgt := 88) (a := 4) (b := 4) C (by omega) (by omega) dX6_reduce_47 (by decide) (fun _ => ?_) (fun h_5 => absurd h_5 (by omega))
          refine lv_aload_n C.1 C.2.1 dX6_reduce_88 rfl (lv_at hl 2 rfl) ?_
          refine m_get C w (k := 36) (j := 1) (v := .ref (r (38))) flX6_13 (by decide) rfl rfl dX6_reduce_89 ?_
          refine lv_iconst (v := 4) C.1 C.2.1 dX6_reduce_92 (by decide) ?_
          refine lv_dup2_11 C.1 C.2.1 dX6_reduce_93 rfl rfl ?_
          refine m_lald C w (k := 38) (i := 4) (n := 5) (wr := true) (by decide) rfl (by omega) (by decide) dX6_reduce_94 ?_
          refine lv_ldc2 (v := (67108863)) C.1 C.2.1 C.2.2.2.1 (C.2.2.2.2.1 _ klX6_53) dX6_reduce_95 ?_
          refine lv_land C.1 C.2.1 dX6_reduce_98 ?_
          refine m_last C w (k := 38) (i := 4) (n := 5) (x := ((M_4.2 38 4) &&& (67108863))) (by decide) rfl (by omega) (by decide) dX6_reduce_99 (fun H locs w => ?_)
          obtain ⟨M_6, eM_6⟩ : ∃ zz, zz = mm_wl M_4 38 4 ((M_4.2 38 4) &&& (67108863)) := ⟨_, rfl⟩
          rw [← eM_6] at w
          exact m_vret C w (by subst ey_1 eM_3 eM_4 eM_6; exact Eq.symm (rfl)) dX6_reduce_100
        | succ k ih =>
          intro t ht H locs ls w hl
          obtain ⟨M_7, eM_7⟩ : ∃ zz, zz = f_X6_reduce_L45 M_3 t := ⟨_, rfl⟩
          rw [← eM_7] at w
          refine lv_iload_n C.1 C.2.1 dX6_reduce_45 rfl (lv_at hl 0 rfl) ?_
          refine lv_iconst (v := 4) C.1 C.2.1 dX6_reduce_46 (by decide) ?_
          refine m_icmp_ge (tgt := 88) (a := t) (b := 4) C (by omega) (by omega) dX6_reduce_47 (by decide) (fun h_8 => absurd h_8 (by omega)) (fun _ => ?_)
          refine lv_aload_n C.1 C.2.1 dX6_reduce_50 rfl (lv_at hl 2 rfl) ?_
          refine m_get C w (k := 36) (j := 1) (v := .ref (r (38))) flX6_13 (by decide) rfl rfl dX6_reduce_51 ?_
          refine lv_iload_n C.1 C.2.1 dX6_reduce_54 rfl (lv_at hl 0 rfl) ?_
          refine lv_iconst (v := 1) C.1 C.2.1 dX6_reduce_55 (by decide) ?_
          refine lv_iadd C.1 C.2.1 dX6_reduce_56 ?_
          refine m_i (y := nI (t + 1)) (nI_add t 1) ?_
          refine lv_dup2_11 C.1 C.2.1 dX6_reduce_57 rfl rfl ?_
          refine m_lald C w (k := 38) (i := t + 1) (n := 5) (wr := true) (by decide) rfl (by omega) (by decide) dX6_reduce_58 ?_
          refine lv_aload_n C.1 C.2.1 dX6_reduce_59 rfl (lv_at hl 2 rfl) ?_
          refine m_get C w (k := 36) (j := 1) (v := .ref (r (38))) flX6_13 (by decide) rfl rfl dX6_reduce_60 ?_
          refine lv_iload_n C.1 C.2.1 dX6_reduce_63 rfl (lv_at hl 0 rfl) ?_
          refine m_lald C w (k := 38) (i := t) (n := 5) (wr := true) (by decide) rfl (by omega) (by decide) dX6_reduce_64 ?_
          refine lv_bipush (v := 26) C.1 C.2.1 dX6_reduce_65 (by decide) ?_
          refine lv_lushr (v := mm_ul (M_7.2 38 t) (26 : Int32)) C.1 C.2.1 dX6_reduce_67 rfl ?_
          refine lv_ladd C.1 C.2.1 dX6_reduce_68 ?_
          refine m_last C w (k := 38) (i := t + 1) (n := 5) (x := ((M_7.2 38 (t + 1)) + (mm_ul (M_7.2 38 t) (26 : Int32)))) (by decide) rfl (by omega) (by decide) dX6_reduce_69 (fun H locs w => ?_)
          obtain ⟨M_9, eM_9⟩ : ∃ zz, zz = mm_wl M_7 38 (t + 1) ((M_7.2 38 (t + 1)) + (mm_ul (M_7.2 38 t) (26 : Int32))) := ⟨_, rfl⟩
          rw [← eM_9] at w
          refine lv_aload_n C.1 C.2.1 dX6_reduce_70 rfl (lv_at hl 2 rfl) ?_
          refine m_get C w (k := 36) (j := 1) (v := .ref (r (38))) flX6_13 (by decide) rfl rfl dX6_reduce_71 ?_
          refine lv_iload_n C.1 C.2.1 dX6_reduce_74 rfl (lv_at hl 0 rfl) ?_
          refine lv_dup2_11 C.1 C.2.1 dX6_reduce_75 rfl rfl ?_
          refine m_lald C w (k := 38) (i := t) (n := 5) (wr := true) (by decide) rfl (by omega) (by decide) dX6_reduce_76 ?_
          refine lv_ldc2 (v := (67108863)) C.1 C.2.1 C.2.2.2.1 (C.2.2.2.2.1 _ klX6_53) dX6_reduce_77 ?_
          refine lv_land C.1 C.2.1 dX6_reduce_80 ?_
          refine m_last C w (k := 38) (i := t) (n := 5) (x := ((M_9.2 38 t) &&& (67108863))) (by decide) rfl (by omega) (by decide) dX6_reduce_81 (fun H locs w => ?_)
          obtain ⟨M_10, eM_10⟩ : ∃ zz, zz = mm_wl M_9 38 t ((M_9.2 38 t) &&& (67108863)) := ⟨_, rfl⟩
          rw [← eM_10] at w
          refine lv_iinc (v := (nI (t + 1))) (lv' := [(3, .int (nI (t + 1))), (1, .long (y_1)), (0, .ref (r (36)))]) C.1 C.2.1 dX6_reduce_82 hl (k := 0) rfl (nI_add t 1) (by decide) rfl (fun ls hl => ?_)
          refine lv_goto (tgt := 45) C.1 C.2.1 dX6_reduce_85 (by decide) ?_
          have h9 : lv_has ls 4 [(3, .int (nI (t + 1))), (1, .long (y_1)), (0, .ref (r (36)))] := lv_sub hl [0, 1, 2] rfl
          have hlZ : lv_has ls 4 [(3, .int (nI (t + 1))), (1, .long (y_1)), (0, .ref (r (36)))] := h9
          have wZ := w
          subst eM_7 eM_9 eM_10
          refine ih (t + 1) (by omega) _ _ _ (wZ) ?_
          exact hlZ
      exact loop 4 0 (by omega) _ _ ls w hl
    | succ k ih =>
      intro t ht H locs ls w hl
      obtain ⟨y_11, ey_11⟩ : ∃ zz, zz = f_X6_reduce_L6 M (5) t := ⟨_, rfl⟩
      rw [← ey_11] at hl
      refine lv_iload_n C.1 C.2.1 dX6_reduce_6 rfl (lv_at hl 0 rfl) ?_
      refine lv_iconst (v := 5) C.1 C.2.1 dX6_reduce_7 (by decide) ?_
      refine m_icmp_ge (tgt := 29) (a := t) (b := 5) C (by omega) (by omega) dX6_reduce_8 (by decide) (fun h_12 => absurd h_12 (by omega)) (fun _ => ?_)
      refine lv_aload_n C.1 C.2.1 dX6_reduce_11 rfl (lv_at hl 2 rfl) ?_
      refine m_get C w (k := 36) (j := 1) (v := .ref (r (38))) flX6_13 (by decide) rfl rfl dX6_reduce_12 ?_
      refine lv_iload_n C.1 C.2.1 dX6_reduce_15 rfl (lv_at hl 0 rfl) ?_
      refine m_lald C w (k := 38) (i := t) (n := 5) (wr := true) (by decide) rfl (by omega) (by decide) dX6_reduce_16 ?_
      refine lv_lload_n C.1 C.2.1 dX6_reduce_17 rfl (lv_at hl 1 rfl) ?_
      refine lv_ladd C.1 C.2.1 dX6_reduce_18 ?_
      refine lv_bipush (v := 26) C.1 C.2.1 dX6_reduce_19 (by decide) ?_
      refine lv_lushr (v := mm_ul ((M.2 38 t) + (y_11)) (26 : Int32)) C.1 C.2.1 dX6_reduce_21 rfl ?_
      refine lv_topl (fun x1_13 ex1_13 => ?_)
      refine lv_lstore_n (lv' := [(1, .long (x1_13)), (3, .int (nI (t))), (0, .ref (r (36)))]) C.1 C.2.1 dX6_reduce_22 rfl hl (by decide) rfl (fun ls hl => ?_)
      refine lv_iinc (v := (nI (t + 1))) (lv' := [(3, .int (nI (t + 1))), (1, .long (x1_13)), (0, .ref (r (36)))]) C.1 C.2.1 dX6_reduce_23 hl (k := 1) rfl (nI_add t 1) (by decide) rfl (fun ls hl => ?_)
      refine lv_goto (tgt := 6) C.1 C.2.1 dX6_reduce_26 (by decide) ?_
      have h9 : lv_has ls 4 [(3, .int (nI (t + 1))), (1, .long (x1_13)), (0, .ref (r (36)))] := lv_sub hl [0, 1, 2] rfl
      have hlZ : lv_has ls 4 [(3, .int (nI (t + 1))), (1, .long (x1_13)), (0, .ref (r (36)))] := h9
      have wZ := w
      subst ey_11 ex1_13
      refine ih (t + 1) (by omega) _ _ _ (wZ) ?_
      exact hlZ
  exact loop 5 0 (by omega) _ _ ls w hl

def f_X6_absorb_B1 (k1 : Nat) (p1 : Nat) (p2 : Nat) (t : Nat) (t1 : Nat) (M_8 : mm_M) : mm_M :=
  if p2 ≤ t * 16 + t1 then (let M_11 := mm_w M_8 39 t1 (0 : Int32)
  M_11) else (let M_13 := mm_w M_8 39 t1 (M_8.1 k1 (p1 + (t * 16) + t1))
  M_13)
theorem w_f_X6_absorb_B1 (k1 : Nat) (p1 : Nat) (p2 : Nat) (t : Nat) (t1 : Nat) (M_8 : mm_M) : mm_fr [39] M_8 (f_X6_absorb_B1 k1 p1 p2 t t1 M_8) := by
  unfold f_X6_absorb_B1
  exact (mm_fr_ite (fun _ => (mm_fr_w (by simp) (mm_fr_refl _ _))) (fun _ => (mm_fr_w (by simp) (mm_fr_refl _ _))))
def f_X6_absorb_L12 (k1 : Nat) (p1 : Nat) (p2 : Nat) (t : Nat) (σ : mm_M) : Nat → mm_M
  | 0 => σ
  | t1 + 1 =>
  let M_8 := f_X6_absorb_L12 k1 p1 p2 t σ t1
  f_X6_absorb_B1 k1 p1 p2 t t1 M_8
theorem w_f_X6_absorb_L12 (k1 : Nat) (p1 : Nat) (p2 : Nat) (t : Nat) (σ : mm_M) : ∀ t1 : Nat, mm_fr [39] σ (f_X6_absorb_L12 k1 p1 p2 t σ t1)
  | 0 => mm_fr_refl _ _
  | t1 + 1 => have ih := w_f_X6_absorb_L12 k1 p1 p2 t σ t1
    ((w_f_X6_absorb_B1 _ _ _ _ _ _).on (by simp) ih)
def f_X6_absorb_L3 (k1 : Nat) (p1 : Nat) (p2 : Nat) (σ : mm_M) : Nat → mm_M
  | 0 => σ
  | t + 1 =>
  let M_3 := f_X6_absorb_L3 k1 p1 p2 σ t
  let M_5 := f_X6_absorb_L12 k1 p1 p2 t M_3 16
  let M_7 := f_X6_addBlock M_5
  M_7
theorem w_f_X6_absorb_L3 (k1 : Nat) (p1 : Nat) (p2 : Nat) (σ : mm_M) : ∀ t : Nat, mm_fr [38, 39] σ (f_X6_absorb_L3 k1 p1 p2 σ t)
  | 0 => mm_fr_refl _ _
  | t + 1 => have ih := w_f_X6_absorb_L3 k1 p1 p2 σ t
    ((w_f_X6_addBlock _).on (by simp) ((w_f_X6_absorb_L12 _ _ _ _ _ 16).on (by simp) ih))
def f_X6_absorb (k1 : Nat) (p1 : Nat) (p2 : Nat) (M : mm_M) : mm_M :=
  let M_1 := f_X6_absorb_L3 k1 p1 p2 M ((p2 + 15) / 16)
  M_1
theorem w_f_X6_absorb (k1 : Nat) (p1 : Nat) (p2 : Nat) (M : mm_M) : mm_fr [38, 39] M (f_X6_absorb k1 p1 p2 M) := by
  unfold f_X6_absorb
  exact ((w_f_X6_absorb_L3 _ _ _ _ ((p2 + 15) / 16)).on (by simp) (mm_fr_refl _ _))
set_option maxHeartbeats 4000000 in
set_option maxRecDepth 100000 in
theorem c_X6_absorb (l : Launch) (D : va_G) (b0 : Nat) (r : Nat → Nat) (M : mm_M) (k1 : Nat) (p1 : Nat) (p2 : Nat) {n1 : Nat} {w1 : Bool} (hk1 : k1 < 181) (hs1 : mm_sh k1 = .inl (.byte, n1, w1)) (hn1 : n1 < 2 ^ 31) (hp1 : p1 + p2 ≤ n1) (hp2 : n1 < 2 ^ 30) : mm_Mv l yX6_absorb cX6_absorb 6 2 73 D b0 r [.ref (r (36)), .ref (r (k1)), .int (nI (p1)), .int (nI (p2))] M (fun M' => M' = f_X6_absorb k1 p1 p2 M) := by
  refine mm_enter (cc := cX6_absorb) (nL := 6) (ret := none) (by decide) (Nat.le_of_ble_eq_true rfl) ?_
  intro p e s m args below meth c C w ls hl
  have hl : lv_has ls 6 [(0, .ref (r (36))), (1, .ref (r (k1))), (2, .int (nI (p1))), (3, .int (nI (p2)))] := hl
  refine lv_iconst (v := 0) C.1 C.2.1 dX6_absorb_0 (by decide) ?_
  refine lv_istore (lv' := [(4, .int 0), (0, .ref (r (36))), (1, .ref (r (k1))), (2, .int (nI (p1))), (3, .int (nI (p2)))]) C.1 C.2.1 dX6_absorb_1 hl (by decide) rfl (fun ls hl => ?_)
  have loop : ∀ (k t : Nat), t + k = (p2 + 15) / 16 → ∀ (H : Heap) (locs : List Loc) (ls : Array Slot), mm_W D b0 r (f_X6_absorb_L3 k1 p1 p2 M t) s H locs → lv_has ls 6 [(4, .int (nI (t * 16))), (0, .ref (r (36))), (1, .ref (r (k1))), (2, .int (nI (p1))), (3, .int (nI (p2)))] → W p l e (mm_rm 2 73) s m args below meth c H locs 0 0 (MQ below (va_Qv (fun M' => M' = f_X6_absorb k1 p1 p2 M) (mm_U D b0 r) (fun q => b0 ≤ q)) args s 0 0 (fun q => b0 ≤ q)) (F0 m 3 ls []) := by
    intro k
    induction k with
    | zero =>
      intro t ht H locs ls w hl
      obtain rfl : (p2 + 15) / 16 = t := by omega
      obtain ⟨M_1, eM_1⟩ : ∃ zz, zz = f_X6_absorb_L3 k1 p1 p2 M ((p2 + 15) / 16) := ⟨_, rfl⟩
      rw [← eM_1] at w
      refine lv_iload C.1 C.2.1 dX6_absorb_3 (lv_at hl 0 rfl) ?_
      refine lv_iload_n C.1 C.2.1 dX6_absorb_5 rfl (lv_at hl 4 rfl) ?_
      refine m_icmp_ge (tgt := 64) (a := ((p2 + 15) / 16) * 16) (b := p2) C (by omega) (by omega) dX6_absorb_6 (by decide) (fun _ => ?_) (fun h_2 => absurd h_2 (by omega))
      exact m_vret C w (by subst eM_1; exact Eq.symm (rfl)) dX6_absorb_64
    | succ k ih =>
      intro t ht H locs ls w hl
      obtain ⟨M_3, eM_3⟩ : ∃ zz, zz = f_X6_absorb_L3 k1 p1 p2 M t := ⟨_, rfl⟩
      rw [← eM_3] at w
      refine lv_iload C.1 C.2.1 dX6_absorb_3 (lv_at hl 0 rfl) ?_
      refine lv_iload_n C.1 C.2.1 dX6_absorb_5 rfl (lv_at hl 4 rfl) ?_
      refine m_icmp_ge (tgt := 64) (a := t * 16) (b := p2) C (by omega) (by omega) dX6_absorb_6 (by decide) (fun h_4 => absurd h_4 (by omega)) (fun _ => ?_)
      refine lv_iconst (v := 0) C.1 C.2.1 dX6_absorb_9 (by decide) ?_
      refine lv_istore (lv' := [(5, .int 0), (4, .int (nI (t * 16))), (0, .ref (r (36))), (1, .ref (r (k1))), (2, .int (nI (p1))), (3, .int (nI (p2)))]) C.1 C.2.1 dX6_absorb_10 hl (by decide) rfl (fun ls hl => ?_)
      have loop1 : ∀ (k t1 : Nat), t1 + k = 16 → ∀ (H : Heap) (locs : List Loc) (ls : Array Slot), mm_W D b0 r (f_X6_absorb_L12 k1 p1 p2 t M_3 t1) s H locs → lv_has ls 6 [(5, .int (nI (t1))), (4, .int (nI (t * 16))), (0, .ref (r (36))), (1, .ref (r (k1))), (2, .int (nI (p1))), (3, .int (nI (p2)))] → W p l e (mm_rm 2 73) s m args below meth c H locs 0 0 (MQ below (va_Qv (fun M' => M' = f_X6_absorb k1 p1 p2 M) (mm_U D b0 r) (fun q => b0 ≤ q)) args s 0 0 (fun q => b0 ≤ q)) (F0 m 12 ls []) := by
        intro k
        induction k with
        | zero =>
          intro t1 ht1 H locs ls w hl
          obtain rfl : 16 = t1 := by omega
          obtain ⟨M_5, eM_5⟩ : ∃ zz, zz = f_X6_absorb_L12 k1 p1 p2 t M_3 16 := ⟨_, rfl⟩
          rw [← eM_5] at w
          refine lv_iload C.1 C.2.1 dX6_absorb_12 (lv_at hl 0 rfl) ?_
          refine lv_bipush (v := 16) C.1 C.2.1 dX6_absorb_14 (by decide) ?_
          refine m_icmp_ge (tgt := 54) (a := 16) (b := 16) C (by omega) (by omega) dX6_absorb_16 (by decide) (fun _ => ?_) (fun h_6 => absurd h_6 (by omega))
          refine lv_aload_n C.1 C.2.1 dX6_absorb_54 rfl (lv_at hl 2 rfl) ?_
          refine m_cvv C w hl cvX6_35 (k := 36) (by decide) rfl (q := (RX6, TX6, 4)) rfl rfl (As := []) (rest := []) (c_X6_addBlock l D b0 r M_5  ) rfl rfl (Nat.le_of_ble_eq_true rfl) ⟨Nat.le_of_ble_eq_true rfl, Nat.le_of_ble_eq_true rfl⟩ ⟨Nat.zero_le _, Nat.zero_le _⟩ dX6_absorb_55 (fun M_7 H locs eM_7 w => ?_)
          refine lv_iinc (v := (nI (t * 16 + 16))) (lv' := [(4, .int (nI (t * 16 + 16))), (5, .int (nI (16))), (0, .ref (r (36))), (1, .ref (r (k1))), (2, .int (nI (p1))), (3, .int (nI (p2)))]) C.1 C.2.1 dX6_absorb_58 hl (k := 1) rfl (nI_add (t * 16) 16) (by decide) rfl (fun ls hl => ?_)
          refine lv_goto (tgt := 3) C.1 C.2.1 dX6_absorb_61 (by decide) ?_
          have h9 : lv_has ls 6 [(4, .int (nI (t * 16 + 16))), (0, .ref (r (36))), (1, .ref (r (k1))), (2, .int (nI (p1))), (3, .int (nI (p2)))] := lv_sub hl [0, 2, 3, 4, 5] rfl
          rw [show ((nI (t * 16 + 16)) : Int32) = (nI ((t + 1) * 16)) from (by first | rfl | (congr 1; omega))] at h9
          have hlZ : lv_has ls 6 [(4, .int (nI ((t + 1) * 16))), (0, .ref (r (36))), (1, .ref (r (k1))), (2, .int (nI (p1))), (3, .int (nI (p2)))] := h9
          have wZ := w
          subst eM_3 eM_5 eM_7
          refine ih (t + 1) (by omega) _ _ _ (wZ) ?_
          exact hlZ
        | succ k ih =>
          intro t1 ht1 H locs ls w hl
          obtain ⟨M_8, eM_8⟩ : ∃ zz, zz = f_X6_absorb_L12 k1 p1 p2 t M_3 t1 := ⟨_, rfl⟩
          rw [← eM_8] at w
          refine lv_iload C.1 C.2.1 dX6_absorb_12 (lv_at hl 0 rfl) ?_
          refine lv_bipush (v := 16) C.1 C.2.1 dX6_absorb_14 (by decide) ?_
          refine m_icmp_ge (tgt := 54) (a := t1) (b := 16) C (by omega) (by omega) dX6_absorb_16 (by decide) (fun h_9 => absurd h_9 (by omega)) (fun _ => ?_)
          refine lv_aload_n C.1 C.2.1 dX6_absorb_19 rfl (lv_at hl 2 rfl) ?_
          refine m_get C w (k := 36) (j := 2) (v := .ref (r (39))) flX6_16 (by decide) rfl rfl dX6_absorb_20 ?_
          refine lv_iload C.1 C.2.1 dX6_absorb_23 (lv_at hl 0 rfl) ?_
          refine lv_iload C.1 C.2.1 dX6_absorb_25 (lv_at hl 1 rfl) ?_
          refine lv_iload C.1 C.2.1 dX6_absorb_27 (lv_at hl 0 rfl) ?_
          refine lv_iadd C.1 C.2.1 dX6_absorb_29 ?_
          refine m_i (y := nI (t * 16 + t1)) (nI_add (t * 16) t1) ?_
          refine lv_iload_n C.1 C.2.1 dX6_absorb_30 rfl (lv_at hl 5 rfl) ?_
          refine m_icmp_ge (tgt := 46) (a := t * 16 + t1) (b := p2) C (by omega) (by omega) dX6_absorb_31 (by decide) (fun h_10 => ?_) (fun h_10 => ?_)
          · refine lv_iconst (v := 0) C.1 C.2.1 dX6_absorb_46 (by decide) ?_
            refine m_bast C w (k := 39) (i := t1) (n := 16) (x := (0 : Int32)) (by decide) rfl (by omega) (by decide) (by decide) dX6_absorb_47 (fun H locs w => ?_)
            obtain ⟨M_11, eM_11⟩ : ∃ zz, zz = mm_w M_8 39 t1 (0 : Int32) := ⟨_, rfl⟩
            rw [← eM_11] at w
            refine lv_iinc (v := (nI (t1 + 1))) (lv' := [(5, .int (nI (t1 + 1))), (4, .int (nI (t * 16))), (0, .ref (r (36))), (1, .ref (r (k1))), (2, .int (nI (p1))), (3, .int (nI (p2)))]) C.1 C.2.1 dX6_absorb_48 hl (k := 0) rfl (nI_add t1 1) (by decide) rfl (fun ls hl => ?_)
            refine lv_goto (tgt := 12) C.1 C.2.1 dX6_absorb_51 (by decide) ?_
            have h9 : lv_has ls 6 [(5, .int (nI (t1 + 1))), (4, .int (nI (t * 16))), (0, .ref (r (36))), (1, .ref (r (k1))), (2, .int (nI (p1))), (3, .int (nI (p2)))] := lv_sub hl [0, 1, 2, 3, 4, 5] rfl
            have hlZ : lv_has ls 6 [(5, .int (nI (t1 + 1))), (4, .int (nI (t * 16))), (0, .ref (r (36))), (1, .ref (r (k1))), (2, .int (nI (p1))), (3, .int (nI (p2)))] := h9
            have wZ := w
            subst eM_8 eM_11
            refine ih (t1 + 1) (by omega) _ _ _ (m_w (Eq.symm (congrArg (fun z => z) (show f_X6_absorb_L12 k1 p1 p2 t M_3 (t1 + 1) = _ from ((if_pos h_10).trans rfl)))) wZ) ?_
            exact hlZ
          · refine lv_aload_n C.1 C.2.1 dX6_absorb_34 rfl (lv_at hl 3 rfl) ?_
            refine lv_iload_n C.1 C.2.1 dX6_absorb_35 rfl (lv_at hl 4 rfl) ?_
            refine lv_iload C.1 C.2.1 dX6_absorb_36 (lv_at hl 1 rfl) ?_
            refine lv_iadd C.1 C.2.1 dX6_absorb_38 ?_
            refine m_i (y := nI (p1 + (t * 16))) (nI_add p1 (t * 16)) ?_
            refine lv_iload C.1 C.2.1 dX6_absorb_39 (lv_at hl 0 rfl) ?_
            refine lv_iadd C.1 C.2.1 dX6_absorb_41 ?_
            refine m_i (y := nI (p1 + (t * 16) + t1)) (nI_add (p1 + (t * 16)) t1) ?_
            have hb_12 := w.1.byte (k := k1) (j := p1 + (t * 16) + t1) hk1 hs1 (by omega)
            refine m_bald C w (k := k1) (i := p1 + (t * 16) + t1) (n := n1) (wr := w1) hk1 hs1 (by omega) hn1 dX6_absorb_42 ?_
            refine lv_goto (tgt := 47) C.1 C.2.1 dX6_absorb_43 (by decide) ?_
            refine m_bast C w (k := 39) (i := t1) (n := 16) (x := (M_8.1 k1 (p1 + (t * 16) + t1))) (by decide) rfl (by omega) (by decide) hb_12 dX6_absorb_47 (fun H locs w => ?_)
            obtain ⟨M_13, eM_13⟩ : ∃ zz, zz = mm_w M_8 39 t1 (M_8.1 k1 (p1 + (t * 16) + t1)) := ⟨_, rfl⟩
            rw [← eM_13] at w
            refine lv_iinc (v := (nI (t1 + 1))) (lv' := [(5, .int (nI (t1 + 1))), (4, .int (nI (t * 16))), (0, .ref (r (36))), (1, .ref (r (k1))), (2, .int (nI (p1))), (3, .int (nI (p2)))]) C.1 C.2.1 dX6_absorb_48 hl (k := 0) rfl (nI_add t1 1) (by decide) rfl (fun ls hl => ?_)
            refine lv_goto (tgt := 12) C.1 C.2.1 dX6_absorb_51 (by decide) ?_
            have h9 : lv_has ls 6 [(5, .int (nI (t1 + 1))), (4, .int (nI (t * 16))), (0, .ref (r (36))), (1, .ref (r (k1))), (2, .int (nI (p1))), (3, .int (nI (p2)))] := lv_sub hl [0, 1, 2, 3, 4, 5] rfl
            have hlZ : lv_has ls 6 [(5, .int (nI (t1 + 1))), (4, .int (nI (t * 16))), (0, .ref (r (36))), (1, .ref (r (k1))), (2, .int (nI (p1))), (3, .int (nI (p2)))] := h9
            have wZ := w
            subst eM_8 eM_13
            refine ih (t1 + 1) (by omega) _ _ _ (m_w (Eq.symm (congrArg (fun z => z) (show f_X6_absorb_L12 k1 p1 p2 t M_3 (t1 + 1) = _ from ((if_neg (Nat.not_le.mpr h_10)).trans rfl)))) wZ) ?_
            exact hlZ
      exact loop1 16 0 (by omega) _ _ ls w hl
  exact loop ((p2 + 15) / 16) 0 (by omega) _ _ ls w (by have h9 := hl; first | exact h9 | simpa using h9)

def f_X6_finish (v1 : Int32) (v2 : Int32) (k1 : Nat) (M : mm_M) : mm_M :=
  let M_1 := f_X1_storeLittle (v1) 39 0 M
  let M_2 := f_X1_storeLittle (0 : Int32) 39 4 M_1
  let M_3 := f_X1_storeLittle (v2) 39 8 M_2
  let M_4 := f_X1_storeLittle (0 : Int32) 39 12 M_3
  let M_5 := f_X6_addBlock M_4
  let M_6 := f_X6_reduce M_5
  let x4_7 := ((M_6.2 38 0) ||| ((M_6.2 38 1) <<< (((26 : Int32)).toInt64 &&& 63))) &&& (4294967295)
  let x4_8 := (x4_7) + ((((M_6.1 40 0) : Int32).toInt64) &&& (4294967295))
  let M_9 := f_X1_storeLittle (((x4_8) : Int64).toInt32) k1 0 M_6
  let x4_10 := ((mm_ul (x4_8) (32 : Int32)) + (((mm_ul (M_9.2 38 1) (6 : Int32)) ||| ((M_9.2 38 2) <<< (((20 : Int32)).toInt64 &&& 63))) &&& (4294967295))) + ((((M_9.1 40 1) : Int32).toInt64) &&& (4294967295))
  let M_11 := f_X1_storeLittle (((x4_10) : Int64).toInt32) k1 4 M_9
  let x4_12 := ((mm_ul (x4_10) (32 : Int32)) + (((mm_ul (M_11.2 38 2) (12 : Int32)) ||| ((M_11.2 38 3) <<< (((14 : Int32)).toInt64 &&& 63))) &&& (4294967295))) + ((((M_11.1 40 2) : Int32).toInt64) &&& (4294967295))
  let M_13 := f_X1_storeLittle (((x4_12) : Int64).toInt32) k1 8 M_11
  let x4_14 := ((mm_ul (x4_12) (32 : Int32)) + (((mm_ul (M_13.2 38 3) (18 : Int32)) ||| ((M_13.2 38 4) <<< (((8 : Int32)).toInt64 &&& 63))) &&& (4294967295))) + ((((M_13.1 40 3) : Int32).toInt64) &&& (4294967295))
  let M_15 := f_X1_storeLittle (((x4_14) : Int64).toInt32) k1 12 M_13
  M_15
theorem w_f_X6_finish (v1 : Int32) (v2 : Int32) (k1 : Nat) (M : mm_M) : mm_fr [39, 38, k1] M (f_X6_finish v1 v2 k1 M) := by
  unfold f_X6_finish
  exact ((w_f_X1_storeLittle _ _ _ _).on (by simp) ((w_f_X1_storeLittle _ _ _ _).on (by simp) ((w_f_X1_storeLittle _ _ _ _).on (by simp) ((w_f_X1_storeLittle _ _ _ _).on (by simp) ((w_f_X6_reduce _).on (by simp) ((w_f_X6_addBlock _).on (by simp) ((w_f_X1_storeLittle _ _ _ _).on (by simp) ((w_f_X1_storeLittle _ _ _ _).on (by simp) ((w_f_X1_storeLittle _ _ _ _).on (by simp) ((w_f_X1_storeLittle _ _ _ _).on (by simp) (mm_fr_refl _ _)))))))))))
set_option maxHeartbeats 4000000 in
set_option maxRecDepth 100000 in
theorem c_X6_finish (l : Launch) (D : va_G) (b0 : Nat) (r : Nat → Nat) (M : mm_M) (v1 : Int32) (v2 : Int32) (k1 : Nat) {n1 : Nat} (hk1 : k1 < 173) (hs1 : mm_sh k1 = .inl (.byte, n1, true)) (hn1 : n1 < 2 ^ 31) (hp1 : 16 ≤ n1) : mm_Mv l yX6_finish cX6_finish 6 2 73 D b0 r [.ref (r (36)), .int (v1), .int (v2), .ref (r (k1))] M (fun M' => M' = f_X6_finish v1 v2 k1 M) := by
  refine mm_enter (cc := cX6_finish) (nL := 6) (ret := none) (by decide) (Nat.le_of_ble_eq_true rfl) ?_
  intro p e s m args below meth c C w ls hl
  have hl : lv_has ls 6 [(0, .ref (r (36))), (1, .int (v1)), (2, .int (v2)), (3, .ref (r (k1)))] := hl
  refine lv_iload_n C.1 C.2.1 dX6_finish_0 rfl (lv_at hl 1 rfl) ?_
  refine lv_aload_n C.1 C.2.1 dX6_finish_1 rfl (lv_at hl 0 rfl) ?_
  refine m_get C w (k := 36) (j := 2) (v := .ref (r (39))) flX6_16 (by decide) rfl rfl dX6_finish_2 ?_
  refine lv_iconst (v := 0) C.1 C.2.1 dX6_finish_5 (by decide) ?_
  refine m_csv C w hl csX6_38 (As := [.int (v1), .ref (r (39)), .int 0]) (rest := []) (c_X1_storeLittle l D b0 r M (v1) 39 0 (by decide) rfl (by decide) (by omega)) rfl rfl (Nat.le_of_ble_eq_true rfl) ⟨Nat.le_of_ble_eq_true rfl, Nat.le_of_ble_eq_true rfl⟩ ⟨Nat.zero_le _, Nat.zero_le _⟩ dX6_finish_6 (fun M_1 H locs eM_1 w => ?_)
  refine lv_iconst (v := 0) C.1 C.2.1 dX6_finish_9 (by decide) ?_
  refine lv_aload_n C.1 C.2.1 dX6_finish_10 rfl (lv_at hl 0 rfl) ?_
  refine m_get C w (k := 36) (j := 2) (v := .ref (r (39))) flX6_16 (by decide) rfl rfl dX6_finish_11 ?_
  refine lv_iconst (v := 4) C.1 C.2.1 dX6_finish_14 (by decide) ?_
  refine m_csv C w hl csX6_38 (As := [.int 0, .ref (r (39)), .int 4]) (rest := []) (c_X1_storeLittle l D b0 r M_1 (0 : Int32) 39 4 (by decide) rfl (by decide) (by omega)) rfl rfl (Nat.le_of_ble_eq_true rfl) ⟨Nat.le_of_ble_eq_true rfl, Nat.le_of_ble_eq_true rfl⟩ ⟨Nat.zero_le _, Nat.zero_le _⟩ dX6_finish_15 (fun M_2 H locs eM_2 w => ?_)
  refine lv_iload_n C.1 C.2.1 dX6_finish_18 rfl (lv_at hl 2 rfl) ?_
  refine lv_aload_n C.1 C.2.1 dX6_finish_19 rfl (lv_at hl 0 rfl) ?_
  refine m_get C w (k := 36) (j := 2) (v := .ref (r (39))) flX6_16 (by decide) rfl rfl dX6_finish_20 ?_
  refine lv_bipush (v := 8) C.1 C.2.1 dX6_finish_23 (by decide) ?_
  refine m_csv C w hl csX6_38 (As := [.int (v2), .ref (r (39)), .int 8]) (rest := []) (c_X1_storeLittle l D b0 r M_2 (v2) 39 8 (by decide) rfl (by decide) (by omega)) rfl rfl (Nat.le_of_ble_eq_true rfl) ⟨Nat.le_of_ble_eq_true rfl, Nat.le_of_ble_eq_true rfl⟩ ⟨Nat.zero_le _, Nat.zero_le _⟩ dX6_finish_25 (fun M_3 H locs eM_3 w => ?_)
  refine lv_iconst (v := 0) C.1 C.2.1 dX6_finish_28 (by decide) ?_
  refine lv_aload_n C.1 C.2.1 dX6_finish_29 rfl (lv_at hl 0 rfl) ?_
  refine m_get C w (k := 36) (j := 2) (v := .ref (r (39))) flX6_16 (by decide) rfl rfl dX6_finish_30 ?_
  refine lv_bipush (v := 12) C.1 C.2.1 dX6_finish_33 (by decide) ?_
  refine m_csv C w hl csX6_38 (As := [.int 0, .ref (r (39)), .int 12]) (rest := []) (c_X1_storeLittle l D b0 r M_3 (0 : Int32) 39 12 (by decide) rfl (by decide) (by omega)) rfl rfl (Nat.le_of_ble_eq_true rfl) ⟨Nat.le_of_ble_eq_true rfl, Nat.le_of_ble_eq_true rfl⟩ ⟨Nat.zero_le _, Nat.zero_le _⟩ dX6_finish_35 (fun M_4 H locs eM_4 w => ?_)
  refine lv_aload_n C.1 C.2.1 dX6_finish_38 rfl (lv_at hl 0 rfl) ?_
  refine m_cvv C w hl cvX6_35 (k := 36) (by decide) rfl (q := (RX6, TX6, 4)) rfl rfl (As := []) (rest := []) (c_X6_addBlock l D b0 r M_4  ) rfl rfl (Nat.le_of_ble_eq_true rfl) ⟨Nat.le_of_ble_eq_true rfl, Nat.le_of_ble_eq_true rfl⟩ ⟨Nat.zero_le _, Nat.zero_le _⟩ dX6_finish_39 (fun M_5 H locs eM_5 w => ?_)
  refine lv_aload_n C.1 C.2.1 dX6_finish_42 rfl (lv_at hl 0 rfl) ?_
  refine m_cvv C w hl cvX6_42 (k := 36) (by decide) rfl (q := (RX6, TX6, 4)) rfl rfl (As := []) (rest := []) (c_X6_reduce l D b0 r M_5  ) rfl rfl (Nat.le_of_ble_eq_true rfl) ⟨Nat.le_of_ble_eq_true rfl, Nat.le_of_ble_eq_true rfl⟩ ⟨Nat.zero_le _, Nat.zero_le _⟩ dX6_finish_43 (fun M_6 H locs eM_6 w => ?_)
  refine lv_aload_n C.1 C.2.1 dX6_finish_46 rfl (lv_at hl 0 rfl) ?_
  refine m_get C w (k := 36) (j := 1) (v := .ref (r (38))) flX6_13 (by decide) rfl rfl dX6_finish_47 ?_
  refine lv_iconst (v := 0) C.1 C.2.1 dX6_finish_50 (by decide) ?_
  refine m_lald C w (k := 38) (i := 0) (n := 5) (wr := true) (by decide) rfl (by omega) (by decide) dX6_finish_51 ?_
  refine lv_aload_n C.1 C.2.1 dX6_finish_52 rfl (lv_at hl 0 rfl) ?_
  refine m_get C w (k := 36) (j := 1) (v := .ref (r (38))) flX6_13 (by decide) rfl rfl dX6_finish_53 ?_
  refine lv_iconst (v := 1) C.1 C.2.1 dX6_finish_56 (by decide) ?_
  refine m_lald C w (k := 38) (i := 1) (n := 5) (wr := true) (by decide) rfl (by omega) (by decide) dX6_finish_57 ?_
  refine lv_bipush (v := 26) C.1 C.2.1 dX6_finish_58 (by decide) ?_
  refine lv_lshl (v := (M_6.2 38 1) <<< (((26 : Int32)).toInt64 &&& 63)) C.1 C.2.1 dX6_finish_60 rfl ?_
  refine lv_lor C.1 C.2.1 dX6_finish_61 ?_
  refine lv_ldc2 (v := (4294967295)) C.1 C.2.1 C.2.2.2.1 (C.2.2.2.2.1 _ klX6_45) dX6_finish_62 ?_
  refine lv_land C.1 C.2.1 dX6_finish_65 ?_
  refine lv_topl (fun x4_7 ex4_7 => ?_)
  refine lv_lstore (lv' := [(4, .long (x4_7)), (0, .ref (r (36))), (1, .int (v1)), (2, .int (v2)), (3, .ref (r (k1)))]) C.1 C.2.1 dX6_finish_66 hl (by decide) rfl (fun ls hl => ?_)
  refine lv_lload C.1 C.2.1 dX6_finish_68 (lv_at hl 0 rfl) ?_
  refine lv_aload_n C.1 C.2.1 dX6_finish_70 rfl (lv_at hl 1 rfl) ?_
  refine m_get C w (k := 36) (j := 3) (v := .ref (r (40))) flX6_20 (by decide) rfl rfl dX6_finish_71 ?_
  refine lv_iconst (v := 0) C.1 C.2.1 dX6_finish_74 (by decide) ?_
  refine m_iald C w (k := 40) (i := 0) (n := 4) (wr := true) (by decide) rfl (by omega) (by decide) dX6_finish_75 ?_
  refine lv_i2l (v := ((M_6.1 40 0) : Int32).toInt64) C.1 C.2.1 dX6_finish_76 rfl ?_
  refine lv_ldc2 (v := (4294967295)) C.1 C.2.1 C.2.2.2.1 (C.2.2.2.2.1 _ klX6_45) dX6_finish_77 ?_
  refine lv_land C.1 C.2.1 dX6_finish_80 ?_
  refine lv_ladd C.1 C.2.1 dX6_finish_81 ?_
  refine lv_topl (fun x4_8 ex4_8 => ?_)
  refine lv_lstore (lv' := [(4, .long (x4_8)), (0, .ref (r (36))), (1, .int (v1)), (2, .int (v2)), (3, .ref (r (k1)))]) C.1 C.2.1 dX6_finish_82 hl (by decide) rfl (fun ls hl => ?_)
  refine lv_lload C.1 C.2.1 dX6_finish_84 (lv_at hl 0 rfl) ?_
  refine lv_l2i (v := ((x4_8) : Int64).toInt32) C.1 C.2.1 dX6_finish_86 rfl ?_
  refine lv_aload_n C.1 C.2.1 dX6_finish_87 rfl (lv_at hl 4 rfl) ?_
  refine lv_iconst (v := 0) C.1 C.2.1 dX6_finish_88 (by decide) ?_
  refine m_csv C w hl csX6_38 (As := [.int (((x4_8) : Int64).toInt32), .ref (r (k1)), .int 0]) (rest := []) (c_X1_storeLittle l D b0 r M_6 (((x4_8) : Int64).toInt32) k1 0 hk1 hs1 hn1 (by omega)) rfl rfl (Nat.le_of_ble_eq_true rfl) ⟨Nat.le_of_ble_eq_true rfl, Nat.le_of_ble_eq_true rfl⟩ ⟨Nat.zero_le _, Nat.zero_le _⟩ dX6_finish_89 (fun M_9 H locs eM_9 w => ?_)
  refine lv_lload C.1 C.2.1 dX6_finish_92 (lv_at hl 0 rfl) ?_
  refine lv_bipush (v := 32) C.1 C.2.1 dX6_finish_94 (by decide) ?_
  refine lv_lushr (v := mm_ul (x4_8) (32 : Int32)) C.1 C.2.1 dX6_finish_96 rfl ?_
  refine lv_aload_n C.1 C.2.1 dX6_finish_97 rfl (lv_at hl 1 rfl) ?_
  refine m_get C w (k := 36) (j := 1) (v := .ref (r (38))) flX6_13 (by decide) rfl rfl dX6_finish_98 ?_
  refine lv_iconst (v := 1) C.1 C.2.1 dX6_finish_101 (by decide) ?_
  refine m_lald C w (k := 38) (i := 1) (n := 5) (wr := true) (by decide) rfl (by omega) (by decide) dX6_finish_102 ?_
  refine lv_bipush (v := 6) C.1 C.2.1 dX6_finish_103 (by decide) ?_
  refine lv_lushr (v := mm_ul (M_9.2 38 1) (6 : Int32)) C.1 C.2.1 dX6_finish_105 rfl ?_
  refine lv_aload_n C.1 C.2.1 dX6_finish_106 rfl (lv_at hl 1 rfl) ?_
  refine m_get C w (k := 36) (j := 1) (v := .ref (r (38))) flX6_13 (by decide) rfl rfl dX6_finish_107 ?_
  refine lv_iconst (v := 2) C.1 C.2.1 dX6_finish_110 (by decide) ?_
  refine m_lald C w (k := 38) (i := 2) (n := 5) (wr := true) (by decide) rfl (by omega) (by decide) dX6_finish_111 ?_
  refine lv_bipush (v := 20) C.1 C.2.1 dX6_finish_112 (by decide) ?_
  refine lv_lshl (v := (M_9.2 38 2) <<< (((20 : Int32)).toInt64 &&& 63)) C.1 C.2.1 dX6_finish_114 rfl ?_
  refine lv_lor C.1 C.2.1 dX6_finish_115 ?_
  refine lv_ldc2 (v := (4294967295)) C.1 C.2.1 C.2.2.2.1 (C.2.2.2.2.1 _ klX6_45) dX6_finish_116 ?_
  refine lv_land C.1 C.2.1 dX6_finish_119 ?_
  refine lv_ladd C.1 C.2.1 dX6_finish_120 ?_
  refine lv_aload_n C.1 C.2.1 dX6_finish_121 rfl (lv_at hl 1 rfl) ?_
  refine m_get C w (k := 36) (j := 3) (v := .ref (r (40))) flX6_20 (by decide) rfl rfl dX6_finish_122 ?_
  refine lv_iconst (v := 1) C.1 C.2.1 dX6_finish_125 (by decide) ?_
  refine m_iald C w (k := 40) (i := 1) (n := 4) (wr := true) (by decide) rfl (by omega) (by decide) dX6_finish_126 ?_
  refine lv_i2l (v := ((M_9.1 40 1) : Int32).toInt64) C.1 C.2.1 dX6_finish_127 rfl ?_
  refine lv_ldc2 (v := (4294967295)) C.1 C.2.1 C.2.2.2.1 (C.2.2.2.2.1 _ klX6_45) dX6_finish_128 ?_
  refine lv_land C.1 C.2.1 dX6_finish_131 ?_
  refine lv_ladd C.1 C.2.1 dX6_finish_132 ?_
  refine lv_topl (fun x4_10 ex4_10 => ?_)
  refine lv_lstore (lv' := [(4, .long (x4_10)), (0, .ref (r (36))), (1, .int (v1)), (2, .int (v2)), (3, .ref (r (k1)))]) C.1 C.2.1 dX6_finish_133 hl (by decide) rfl (fun ls hl => ?_)
  refine lv_lload C.1 C.2.1 dX6_finish_135 (lv_at hl 0 rfl) ?_
  refine lv_l2i (v := ((x4_10) : Int64).toInt32) C.1 C.2.1 dX6_finish_137 rfl ?_
  refine lv_aload_n C.1 C.2.1 dX6_finish_138 rfl (lv_at hl 4 rfl) ?_
  refine lv_iconst (v := 4) C.1 C.2.1 dX6_finish_139 (by decide) ?_
  refine m_csv C w hl csX6_38 (As := [.int (((x4_10) : Int64).toInt32), .ref (r (k1)), .int 4]) (rest := []) (c_X1_storeLittle l D b0 r M_9 (((x4_10) : Int64).toInt32) k1 4 hk1 hs1 hn1 (by omega)) rfl rfl (Nat.le_of_ble_eq_true rfl) ⟨Nat.le_of_ble_eq_true rfl, Nat.le_of_ble_eq_true rfl⟩ ⟨Nat.zero_le _, Nat.zero_le _⟩ dX6_finish_140 (fun M_11 H locs eM_11 w => ?_)
  refine lv_lload C.1 C.2.1 dX6_finish_143 (lv_at hl 0 rfl) ?_
  refine lv_bipush (v := 32) C.1 C.2.1 dX6_finish_145 (by decide) ?_
  refine lv_lushr (v := mm_ul (x4_10) (32 : Int32)) C.1 C.2.1 dX6_finish_147 rfl ?_
  refine lv_aload_n C.1 C.2.1 dX6_finish_148 rfl (lv_at hl 1 rfl) ?_
  refine m_get C w (k := 36) (j := 1) (v := .ref (r (38))) flX6_13 (by decide) rfl rfl dX6_finish_149 ?_
  refine lv_iconst (v := 2) C.1 C.2.1 dX6_finish_152 (by decide) ?_
  refine m_lald C w (k := 38) (i := 2) (n := 5) (wr := true) (by decide) rfl (by omega) (by decide) dX6_finish_153 ?_
  refine lv_bipush (v := 12) C.1 C.2.1 dX6_finish_154 (by decide) ?_
  refine lv_lushr (v := mm_ul (M_11.2 38 2) (12 : Int32)) C.1 C.2.1 dX6_finish_156 rfl ?_
  refine lv_aload_n C.1 C.2.1 dX6_finish_157 rfl (lv_at hl 1 rfl) ?_
  refine m_get C w (k := 36) (j := 1) (v := .ref (r (38))) flX6_13 (by decide) rfl rfl dX6_finish_158 ?_
  refine lv_iconst (v := 3) C.1 C.2.1 dX6_finish_161 (by decide) ?_
  refine m_lald C w (k := 38) (i := 3) (n := 5) (wr := true) (by decide) rfl (by omega) (by decide) dX6_finish_162 ?_
  refine lv_bipush (v := 14) C.1 C.2.1 dX6_finish_163 (by decide) ?_
  refine lv_lshl (v := (M_11.2 38 3) <<< (((14 : Int32)).toInt64 &&& 63)) C.1 C.2.1 dX6_finish_165 rfl ?_
  refine lv_lor C.1 C.2.1 dX6_finish_166 ?_
  refine lv_ldc2 (v := (4294967295)) C.1 C.2.1 C.2.2.2.1 (C.2.2.2.2.1 _ klX6_45) dX6_finish_167 ?_
  refine lv_land C.1 C.2.1 dX6_finish_170 ?_
  refine lv_ladd C.1 C.2.1 dX6_finish_171 ?_
  refine lv_aload_n C.1 C.2.1 dX6_finish_172 rfl (lv_at hl 1 rfl) ?_
  refine m_get C w (k := 36) (j := 3) (v := .ref (r (40))) flX6_20 (by decide) rfl rfl dX6_finish_173 ?_
  refine lv_iconst (v := 2) C.1 C.2.1 dX6_finish_176 (by decide) ?_
  refine m_iald C w (k := 40) (i := 2) (n := 4) (wr := true) (by decide) rfl (by omega) (by decide) dX6_finish_177 ?_
  refine lv_i2l (v := ((M_11.1 40 2) : Int32).toInt64) C.1 C.2.1 dX6_finish_178 rfl ?_
  refine lv_ldc2 (v := (4294967295)) C.1 C.2.1 C.2.2.2.1 (C.2.2.2.2.1 _ klX6_45) dX6_finish_179 ?_
  refine lv_land C.1 C.2.1 dX6_finish_182 ?_
  refine lv_ladd C.1 C.2.1 dX6_finish_183 ?_
  refine lv_topl (fun x4_12 ex4_12 => ?_)
  refine lv_lstore (lv' := [(4, .long (x4_12)), (0, .ref (r (36))), (1, .int (v1)), (2, .int (v2)), (3, .ref (r (k1)))]) C.1 C.2.1 dX6_finish_184 hl (by decide) rfl (fun ls hl => ?_)
  refine lv_lload C.1 C.2.1 dX6_finish_186 (lv_at hl 0 rfl) ?_
  refine lv_l2i (v := ((x4_12) : Int64).toInt32) C.1 C.2.1 dX6_finish_188 rfl ?_
  refine lv_aload_n C.1 C.2.1 dX6_finish_189 rfl (lv_at hl 4 rfl) ?_
  refine lv_bipush (v := 8) C.1 C.2.1 dX6_finish_190 (by decide) ?_
  refine m_csv C w hl csX6_38 (As := [.int (((x4_12) : Int64).toInt32), .ref (r (k1)), .int 8]) (rest := []) (c_X1_storeLittle l D b0 r M_11 (((x4_12) : Int64).toInt32) k1 8 hk1 hs1 hn1 (by omega)) rfl rfl (Nat.le_of_ble_eq_true rfl) ⟨Nat.le_of_ble_eq_true rfl, Nat.le_of_ble_eq_true rfl⟩ ⟨Nat.zero_le _, Nat.zero_le _⟩ dX6_finish_192 (fun M_13 H locs eM_13 w => ?_)
  refine lv_lload C.1 C.2.1 dX6_finish_195 (lv_at hl 0 rfl) ?_
  refine lv_bipush (v := 32) C.1 C.2.1 dX6_finish_197 (by decide) ?_
  refine lv_lushr (v := mm_ul (x4_12) (32 : Int32)) C.1 C.2.1 dX6_finish_199 rfl ?_
  refine lv_aload_n C.1 C.2.1 dX6_finish_200 rfl (lv_at hl 1 rfl) ?_
  refine m_get C w (k := 36) (j := 1) (v := .ref (r (38))) flX6_13 (by decide) rfl rfl dX6_finish_201 ?_
  refine lv_iconst (v := 3) C.1 C.2.1 dX6_finish_204 (by decide) ?_
  refine m_lald C w (k := 38) (i := 3) (n := 5) (wr := true) (by decide) rfl (by omega) (by decide) dX6_finish_205 ?_
  refine lv_bipush (v := 18) C.1 C.2.1 dX6_finish_206 (by decide) ?_
  refine lv_lushr (v := mm_ul (M_13.2 38 3) (18 : Int32)) C.1 C.2.1 dX6_finish_208 rfl ?_
  refine lv_aload_n C.1 C.2.1 dX6_finish_209 rfl (lv_at hl 1 rfl) ?_
  refine m_get C w (k := 36) (j := 1) (v := .ref (r (38))) flX6_13 (by decide) rfl rfl dX6_finish_210 ?_
  refine lv_iconst (v := 4) C.1 C.2.1 dX6_finish_213 (by decide) ?_
  refine m_lald C w (k := 38) (i := 4) (n := 5) (wr := true) (by decide) rfl (by omega) (by decide) dX6_finish_214 ?_
  refine lv_bipush (v := 8) C.1 C.2.1 dX6_finish_215 (by decide) ?_
  refine lv_lshl (v := (M_13.2 38 4) <<< (((8 : Int32)).toInt64 &&& 63)) C.1 C.2.1 dX6_finish_217 rfl ?_
  refine lv_lor C.1 C.2.1 dX6_finish_218 ?_
  refine lv_ldc2 (v := (4294967295)) C.1 C.2.1 C.2.2.2.1 (C.2.2.2.2.1 _ klX6_45) dX6_finish_219 ?_
  refine lv_land C.1 C.2.1 dX6_finish_222 ?_
  refine lv_ladd C.1 C.2.1 dX6_finish_223 ?_
  refine lv_aload_n C.1 C.2.1 dX6_finish_224 rfl (lv_at hl 1 rfl) ?_
  refine m_get C w (k := 36) (j := 3) (v := .ref (r (40))) flX6_20 (by decide) rfl rfl dX6_finish_225 ?_
  refine lv_iconst (v := 3) C.1 C.2.1 dX6_finish_228 (by decide) ?_
  refine m_iald C w (k := 40) (i := 3) (n := 4) (wr := true) (by decide) rfl (by omega) (by decide) dX6_finish_229 ?_
  refine lv_i2l (v := ((M_13.1 40 3) : Int32).toInt64) C.1 C.2.1 dX6_finish_230 rfl ?_
  refine lv_ldc2 (v := (4294967295)) C.1 C.2.1 C.2.2.2.1 (C.2.2.2.2.1 _ klX6_45) dX6_finish_231 ?_
  refine lv_land C.1 C.2.1 dX6_finish_234 ?_
  refine lv_ladd C.1 C.2.1 dX6_finish_235 ?_
  refine lv_topl (fun x4_14 ex4_14 => ?_)
  refine lv_lstore (lv' := [(4, .long (x4_14)), (0, .ref (r (36))), (1, .int (v1)), (2, .int (v2)), (3, .ref (r (k1)))]) C.1 C.2.1 dX6_finish_236 hl (by decide) rfl (fun ls hl => ?_)
  refine lv_lload C.1 C.2.1 dX6_finish_238 (lv_at hl 0 rfl) ?_
  refine lv_l2i (v := ((x4_14) : Int64).toInt32) C.1 C.2.1 dX6_finish_240 rfl ?_
  refine lv_aload_n C.1 C.2.1 dX6_finish_241 rfl (lv_at hl 4 rfl) ?_
  refine lv_bipush (v := 12) C.1 C.2.1 dX6_finish_242 (by decide) ?_
  refine m_csv C w hl csX6_38 (As := [.int (((x4_14) : Int64).toInt32), .ref (r (k1)), .int 12]) (rest := []) (c_X1_storeLittle l D b0 r M_13 (((x4_14) : Int64).toInt32) k1 12 hk1 hs1 hn1 (by omega)) rfl rfl (Nat.le_of_ble_eq_true rfl) ⟨Nat.le_of_ble_eq_true rfl, Nat.le_of_ble_eq_true rfl⟩ ⟨Nat.zero_le _, Nat.zero_le _⟩ dX6_finish_244 (fun M_15 H locs eM_15 w => ?_)
  exact m_vret C w (by subst eM_1 eM_2 eM_3 eM_4 eM_5 eM_6 ex4_7 ex4_8 eM_9 ex4_10 eM_11 ex4_12 eM_13 ex4_14 eM_15; exact Eq.symm (rfl)) dX6_finish_247
