def f_X12_send_B1 (q1 : Nat) (q2 : Nat) (M_6 : mm_M) : Int32 × mm_M :=
  if (M_6.1 160 q1) = (0 : Int32) then (let M_10 := f_X12_seals 157 (352 * q1 + 320) (M_6.2 168 q1) 119 0 0 119 0 q2 120 0 M_6
  let M_11 := f_X12_counts q1 (M_10.1 160 q1) M_10
  let v_13 := (f_X12_tells 120 (q2 + 16) M_11).1
  let M_12 := (f_X12_tells 120 (q2 + 16) M_11).2
  ((v_13), M_12)) else (let M_14 := f_X12_seals 157 (352 * q1 + 320) (M_6.2 167 q1) 119 0 0 119 0 q2 120 0 M_6
  let M_15 := f_X12_counts q1 (M_14.1 160 q1) M_14
  let v_17 := (f_X12_tells 120 (q2 + 16) M_15).1
  let M_16 := (f_X12_tells 120 (q2 + 16) M_15).2
  ((v_17), M_16))
theorem w_f_X12_send_B1 (q1 : Nat) (q2 : Nat) (M_6 : mm_M) : mm_fr2 [120, 147, 149, 148, 155, 151, 150, 152, 153, 156, 154, 168, 167, 121, 117] M_6 (f_X12_send_B1 q1 q2 M_6) := by
  unfold f_X12_send_B1
  exact (mm_fr_ite2 (fun _ => ((w_f_X12_tells _ _ _).m.on (by simp) ((w_f_X12_counts _ _ _).on (by simp) ((w_f_X12_seals _ _ _ _ _ _ _ _ _ _ _ _).on (by simp) (mm_fr_refl _ _)))).b) (fun _ => ((w_f_X12_tells _ _ _).m.on (by simp) ((w_f_X12_counts _ _ _).on (by simp) ((w_f_X12_seals _ _ _ _ _ _ _ _ _ _ _ _).on (by simp) (mm_fr_refl _ _)))).b))
def f_X12_send_B2 (q1 : Nat) (q2 : Nat) (M_6 : mm_M) : Int32 × mm_M :=
  if (M_6.1 160 q1) = (0 : Int32) then (let M_19 := f_X12_seals 157 (352 * q1 + 288) (M_6.2 168 q1) 119 0 0 119 0 q2 120 0 M_6
  let M_20 := f_X12_counts q1 (M_19.1 160 q1) M_19
  let v_22 := (f_X12_tells 120 (q2 + 16) M_20).1
  let M_21 := (f_X12_tells 120 (q2 + 16) M_20).2
  ((v_22), M_21)) else (let M_23 := f_X12_seals 157 (352 * q1 + 288) (M_6.2 167 q1) 119 0 0 119 0 q2 120 0 M_6
  let M_24 := f_X12_counts q1 (M_23.1 160 q1) M_23
  let v_26 := (f_X12_tells 120 (q2 + 16) M_24).1
  let M_25 := (f_X12_tells 120 (q2 + 16) M_24).2
  ((v_26), M_25))
theorem w_f_X12_send_B2 (q1 : Nat) (q2 : Nat) (M_6 : mm_M) : mm_fr2 [120, 147, 149, 148, 155, 151, 150, 152, 153, 156, 154, 168, 167, 121, 117] M_6 (f_X12_send_B2 q1 q2 M_6) := by
  unfold f_X12_send_B2
  exact (mm_fr_ite2 (fun _ => ((w_f_X12_tells _ _ _).m.on (by simp) ((w_f_X12_counts _ _ _).on (by simp) ((w_f_X12_seals _ _ _ _ _ _ _ _ _ _ _ _).on (by simp) (mm_fr_refl _ _)))).b) (fun _ => ((w_f_X12_tells _ _ _).m.on (by simp) ((w_f_X12_counts _ _ _).on (by simp) ((w_f_X12_seals _ _ _ _ _ _ _ _ _ _ _ _).on (by simp) (mm_fr_refl _ _)))).b))
def f_X12_send_B3 (q1 : Nat) (q2 : Nat) (M_6 : mm_M) : Int32 × mm_M :=
  if (M_6.1 160 q1) = (0 : Int32) then (f_X12_send_B1 q1 q2 M_6) else (f_X12_send_B2 q1 q2 M_6)
theorem w_f_X12_send_B3 (q1 : Nat) (q2 : Nat) (M_6 : mm_M) : mm_fr2 [120, 147, 149, 148, 155, 151, 150, 152, 153, 156, 154, 168, 167, 121, 117] M_6 (f_X12_send_B3 q1 q2 M_6) := by
  unfold f_X12_send_B3
  exact (mm_fr_ite2 (fun _ => ((w_f_X12_send_B1 _ _ _).on (by simp) (mm_fr_refl _ _))) (fun _ => ((w_f_X12_send_B2 _ _ _).on (by simp) (mm_fr_refl _ _))))
def f_X12_send_B4 (q1 : Nat) (q2 : Nat) (M_6 : mm_M) : Int32 × mm_M :=
  if (3 : Int32) ≤ (M_6.1 164 q1) then (f_X12_send_B3 q1 q2 M_6) else (((-1 : Int32), M_6))
theorem w_f_X12_send_B4 (q1 : Nat) (q2 : Nat) (M_6 : mm_M) : mm_fr2 [120, 147, 149, 148, 155, 151, 150, 152, 153, 156, 154, 168, 167, 121, 117] M_6 (f_X12_send_B4 q1 q2 M_6) := by
  unfold f_X12_send_B4
  exact (mm_fr_ite2 (fun _ => ((w_f_X12_send_B3 _ _ _).on (by simp) (mm_fr_refl _ _))) (fun _ => (mm_fr_refl _ _).b))
def f_X12_send (v1 : Int32) (v2 : Int32) (ts : Nat) (M : mm_M) : Int32 × mm_M :=
  if ¬ f_X12_isSession v1 M = 0 ∧ ¬ f_X12_in v2 0 900 = 0 ∧ v2 ≤ nI ts then (let q1 := (v1).toNatClampNeg
  let q2 := (v2).toNatClampNeg
  let M_6 := f_X12_takes ts M
  f_X12_send_B4 q1 q2 M_6) else (if (f_X12_isSession (v1) M) = (0 : Int32) then (((-2 : Int32), M)) else (if (f_X12_in (v2) (0 : Int32) (900 : Int32)) = (0 : Int32) then (((-2 : Int32), M)) else (((-2 : Int32), M))))
theorem w_f_X12_send (v1 : Int32) (v2 : Int32) (ts : Nat) (M : mm_M) : mm_fr2 [119, 117, 120, 147, 149, 148, 155, 151, 150, 152, 153, 156, 154, 168, 167, 121] M (f_X12_send v1 v2 ts M) := by
  unfold f_X12_send
  exact (mm_fr_ite2 (fun _ => ((w_f_X12_send_B4 _ _ _).on (by simp) ((w_f_X12_takes _ _).on (by simp) (mm_fr_refl _ _)))) (fun _ => (mm_fr_ite2 (fun _ => (mm_fr_refl _ _).b) (fun _ => (mm_fr_ite2 (fun _ => (mm_fr_refl _ _).b) (fun _ => (mm_fr_refl _ _).b))))))
set_option maxHeartbeats 4000000 in
set_option maxRecDepth 100000 in
theorem c_X12_send (l : Launch) (D : va_G) (b0 : Nat) (r : Nat → Nat) (M : mm_M) (v1 : Int32) (v2 : Int32) (ts : Nat) (hts : ts ≤ 1000) (h1 : M.1 117 4 = nI ts) : mm_Mi l yX12_send cX12_send 4 .int 5 134 D b0 r [.ref (r (117)), .int (v1), .int (v2)] M (fun v M' => (v, M') = f_X12_send v1 v2 ts M) := by
  refine mm_enter (cc := cX12_send) (nL := 4) (ret := (some .int)) (by decide) (Nat.le_of_ble_eq_true rfl) ?_
  intro p e s m args below meth c C w ls hl
  have hl : lv_has ls 4 [(0, .ref (r (117))), (1, .int (v1)), (2, .int (v2))] := hl
  by_cases hS : ¬ f_X12_isSession v1 M = 0 ∧ ¬ f_X12_in v2 0 900 = 0 ∧ v2 ≤ nI ts
  · obtain ⟨q1, eq1⟩ : ∃ zz, zz = (v1).toNatClampNeg := ⟨_, rfl⟩
    obtain ⟨hvq1, hbq1⟩ : v1 = nI q1 ∧ q1 < 4 := by rw [eq1]; exact g_isSession2 hS.1
    rw [hvq1] at hl
    obtain ⟨q2, eq2⟩ : ∃ zz, zz = (v2).toNatClampNeg := ⟨_, rfl⟩
    obtain ⟨hvq2, hbq2⟩ : v2 = nI q2 ∧ q2 ≤ ts ∧ q2 ≤ 900 := by rw [eq2]; exact g_inT hts hS.2.1 hS.2.2
    rw [hvq2] at hl
    have hTq1 : ¬ f_X12_isSession (nI q1) M = 0 := by rw [← hvq1]; exact hS.1
    have hTq2 : ¬ f_X12_in (nI q2) 0 900 = 0 := by rw [← hvq2]; exact hS.2.1
    obtain ⟨hb2a, hb2b⟩ := hbq2
    refine lv_aload_n C.1 C.2.1 dX12_send_0 rfl (lv_at hl 0 rfl) ?_
    refine lv_iload_n C.1 C.2.1 dX12_send_1 rfl (lv_at hl 1 rfl) ?_
    refine m_cvi C w hl cvX12_421 (k := 117) (by decide) rfl (q := (RX12, TX12, 58)) rfl rfl (As := [.int (nI (q1))]) (rest := []) (c_X12_isSession l D b0 r M (nI (q1)) ) rfl rfl (Nat.le_of_ble_eq_true rfl) ⟨Nat.le_of_ble_eq_true rfl, Nat.le_of_ble_eq_true rfl⟩ ⟨Nat.zero_le _, Nat.zero_le _⟩ dX12_send_2 (fun v_1 M9 H locs e9 w => ?_)
    obtain ⟨ev_1, e9⟩ := e9
    rw [e9] at w
    subst ev_1
    refine lv_if_eq (tgt := 27) C.1 C.2.1 dX12_send_5 (by decide) (fun h_2 => absurd h_2 hTq1) (fun _ => ?_)
    refine lv_iload_n C.1 C.2.1 dX12_send_8 rfl (lv_at hl 2 rfl) ?_
    refine lv_iconst (v := 0) C.1 C.2.1 dX12_send_9 (by decide) ?_
    refine lv_sipush (v := 900) C.1 C.2.1 dX12_send_10 (by decide) ?_
    refine m_csi C w hl csX12_373 (As := [.int (nI (q2)), .int 0, .int 900]) (rest := []) (c_X12_in l D b0 r M (nI (q2)) (0 : Int32) (900 : Int32) ) rfl rfl (Nat.le_of_ble_eq_true rfl) ⟨Nat.le_of_ble_eq_true rfl, Nat.le_of_ble_eq_true rfl⟩ ⟨Nat.zero_le _, Nat.zero_le _⟩ dX12_send_13 (fun v_3 M9 H locs e9 w => ?_)
    obtain ⟨ev_3, e9⟩ := e9
    rw [e9] at w
    subst ev_3
    refine lv_if_eq (tgt := 27) C.1 C.2.1 dX12_send_16 (by decide) (fun h_4 => absurd h_4 hTq2) (fun _ => ?_)
    refine lv_iload_n C.1 C.2.1 dX12_send_19 rfl (lv_at hl 2 rfl) ?_
    refine lv_aload_n C.1 C.2.1 dX12_send_20 rfl (lv_at hl 0 rfl) ?_
    refine m_get C w (k := 117) (j := 4) (v := .int (M.1 117 4)) flX12_364 (by decide) rfl rfl dX12_send_21 ?_
    refine m_i (y := nI (ts)) h1 ?_
    refine m_icmp_le (tgt := 30) (a := q2) (b := ts) C (by omega) (by omega) dX12_send_24 (by decide) (fun _ => ?_) (fun h_5 => absurd h_5 (by omega))
    refine lv_aload_n C.1 C.2.1 dX12_send_30 rfl (lv_at hl 0 rfl) ?_
    refine m_cvv C w hl cvX12_381 (k := 117) (by decide) rfl (q := (RX12, TX12, 58)) rfl rfl (As := []) (rest := []) (c_X12_takes l D b0 r M ts (by omega) h1) rfl rfl (Nat.le_of_ble_eq_true rfl) ⟨Nat.le_of_ble_eq_true rfl, Nat.le_of_ble_eq_true rfl⟩ ⟨Nat.zero_le _, Nat.zero_le _⟩ dX12_send_31 (fun M_6 H locs eM_6 w => ?_)
    refine lv_aload_n C.1 C.2.1 dX12_send_34 rfl (lv_at hl 0 rfl) ?_
    refine m_get C w (k := 117) (j := 49) (v := .ref (r (164))) flX12_223 (by decide) rfl rfl dX12_send_35 ?_
    refine lv_iload_n C.1 C.2.1 dX12_send_38 rfl (lv_at hl 1 rfl) ?_
    refine m_iald C w (k := 164) (i := q1) (n := 4) (wr := true) (by decide) rfl (by omega) (by decide) dX12_send_39 ?_
    refine lv_iconst (v := 3) C.1 C.2.1 dX12_send_40 (by decide) ?_
    refine lv_icmp_ge (tgt := 46) C.1 C.2.1 dX12_send_41 (by decide) (fun h_7 => ?_) (fun h_7 => ?_)
    · refine lv_sipush (v := 352) C.1 C.2.1 dX12_send_46 (by decide) ?_
      refine lv_iload_n C.1 C.2.1 dX12_send_49 rfl (lv_at hl 1 rfl) ?_
      refine lv_imul C.1 C.2.1 dX12_send_50 ?_
      refine m_i (y := nI (352 * q1)) (pk_mul 352 q1) ?_
      refine lv_aload_n C.1 C.2.1 dX12_send_51 rfl (lv_at hl 0 rfl) ?_
      refine m_get C w (k := 117) (j := 45) (v := .ref (r (160))) flX12_211 (by decide) rfl rfl dX12_send_52 ?_
      refine lv_iload_n C.1 C.2.1 dX12_send_55 rfl (lv_at hl 1 rfl) ?_
      refine m_zald C w (k := 160) (i := q1) (n := 4) (wr := true) (by decide) rfl (by omega) (by decide) dX12_send_56 ?_
      refine lv_if_eq (tgt := 66) C.1 C.2.1 dX12_send_57 (by decide) (fun h_8 => ?_) (fun h_8 => ?_)
      · refine lv_sipush (v := 320) C.1 C.2.1 dX12_send_66 (by decide) ?_
        refine lv_iadd C.1 C.2.1 dX12_send_69 ?_
        refine m_i (y := nI (352 * q1 + 320)) (nI_add (352 * q1) 320) ?_
        refine lv_istore_n (lv' := [(3, .int (nI (352 * q1 + 320))), (0, .ref (r (117))), (1, .int (nI (q1))), (2, .int (nI (q2)))]) C.1 C.2.1 dX12_send_70 rfl hl (by decide) rfl (fun ls hl => ?_)
        refine lv_aload_n C.1 C.2.1 dX12_send_71 rfl (lv_at hl 1 rfl) ?_
        refine lv_aload_n C.1 C.2.1 dX12_send_72 rfl (lv_at hl 1 rfl) ?_
        refine m_get C w (k := 117) (j := 42) (v := .ref (r (157))) flX12_201 (by decide) rfl rfl dX12_send_73 ?_
        refine lv_iload_n C.1 C.2.1 dX12_send_76 rfl (lv_at hl 0 rfl) ?_
        refine lv_aload_n C.1 C.2.1 dX12_send_77 rfl (lv_at hl 1 rfl) ?_
        refine m_get C w (k := 117) (j := 45) (v := .ref (r (160))) flX12_211 (by decide) rfl rfl dX12_send_78 ?_
        refine lv_iload_n C.1 C.2.1 dX12_send_81 rfl (lv_at hl 2 rfl) ?_
        refine m_zald C w (k := 160) (i := q1) (n := 4) (wr := true) (by decide) rfl (by omega) (by decide) dX12_send_82 ?_
        refine lv_if_eq (tgt := 95) C.1 C.2.1 dX12_send_83 (by decide) (fun h_9 => ?_) (fun h_9 => ?_)
        · refine lv_aload_n C.1 C.2.1 dX12_send_95 rfl (lv_at hl 1 rfl) ?_
          refine m_get C w (k := 117) (j := 53) (v := .ref (r (168))) flX12_235 (by decide) rfl rfl dX12_send_96 ?_
          refine lv_iload_n C.1 C.2.1 dX12_send_99 rfl (lv_at hl 2 rfl) ?_
          refine m_lald C w (k := 168) (i := q1) (n := 4) (wr := true) (by decide) rfl (by omega) (by decide) dX12_send_100 ?_
          refine lv_aload_n C.1 C.2.1 dX12_send_101 rfl (lv_at hl 1 rfl) ?_
          refine m_get C w (k := 117) (j := 1) (v := .ref (r (119))) flX12_13 (by decide) rfl rfl dX12_send_102 ?_
          refine lv_iconst (v := 0) C.1 C.2.1 dX12_send_105 (by decide) ?_
          refine lv_iconst (v := 0) C.1 C.2.1 dX12_send_106 (by decide) ?_
          refine lv_aload_n C.1 C.2.1 dX12_send_107 rfl (lv_at hl 1 rfl) ?_
          refine m_get C w (k := 117) (j := 1) (v := .ref (r (119))) flX12_13 (by decide) rfl rfl dX12_send_108 ?_
          refine lv_iconst (v := 0) C.1 C.2.1 dX12_send_111 (by decide) ?_
          refine lv_iload_n C.1 C.2.1 dX12_send_112 rfl (lv_at hl 3 rfl) ?_
          refine lv_aload_n C.1 C.2.1 dX12_send_113 rfl (lv_at hl 1 rfl) ?_
          refine m_get C w (k := 117) (j := 2) (v := .ref (r (120))) flX12_16 (by decide) rfl rfl dX12_send_114 ?_
          refine lv_iconst (v := 0) C.1 C.2.1 dX12_send_117 (by decide) ?_
          refine m_cvv C w hl cvX12_394 (k := 117) (by decide) rfl (q := (RX12, TX12, 58)) rfl rfl (As := [.ref (r (157)), .int (nI (352 * q1 + 320)), .long (M_6.2 168 q1), .ref (r (119)), .int 0, .int 0, .ref (r (119)), .int 0, .int (nI (q2)), .ref (r (120)), .int 0]) (rest := []) (c_X12_seals l D b0 r M_6 157 (352 * q1 + 320) (M_6.2 168 q1) 119 0 0 119 0 q2 120 0 (by decide) rfl (by decide) (by omega) (by omega) (by decide) rfl (by decide) (by omega) (by omega) (by decide) rfl (by decide) (by omega) (by omega) (by decide) rfl (by decide) (by omega) (by omega)) rfl rfl (Nat.le_of_ble_eq_true rfl) ⟨Nat.le_of_ble_eq_true rfl, Nat.le_of_ble_eq_true rfl⟩ ⟨Nat.zero_le _, Nat.zero_le _⟩ dX12_send_118 (fun M_10 H locs eM_10 w => ?_)
          refine lv_aload_n C.1 C.2.1 dX12_send_121 rfl (lv_at hl 1 rfl) ?_
          refine lv_iload_n C.1 C.2.1 dX12_send_122 rfl (lv_at hl 2 rfl) ?_
          refine lv_aload_n C.1 C.2.1 dX12_send_123 rfl (lv_at hl 1 rfl) ?_
          refine m_get C w (k := 117) (j := 45) (v := .ref (r (160))) flX12_211 (by decide) rfl rfl dX12_send_124 ?_
          refine lv_iload_n C.1 C.2.1 dX12_send_127 rfl (lv_at hl 2 rfl) ?_
          refine m_zald C w (k := 160) (i := q1) (n := 4) (wr := true) (by decide) rfl (by omega) (by decide) dX12_send_128 ?_
          refine m_cvv C w hl cvX12_448 (k := 117) (by decide) rfl (q := (RX12, TX12, 58)) rfl rfl (As := [.int (nI (q1)), .int (M_10.1 160 q1)]) (rest := []) (c_X12_counts l D b0 r M_10 q1 (M_10.1 160 q1) (by omega)) rfl rfl (Nat.le_of_ble_eq_true rfl) ⟨Nat.le_of_ble_eq_true rfl, Nat.le_of_ble_eq_true rfl⟩ ⟨Nat.zero_le _, Nat.zero_le _⟩ dX12_send_129 (fun M_11 H locs eM_11 w => ?_)
          refine lv_aload_n C.1 C.2.1 dX12_send_132 rfl (lv_at hl 1 rfl) ?_
          refine lv_aload_n C.1 C.2.1 dX12_send_133 rfl (lv_at hl 1 rfl) ?_
          refine m_get C w (k := 117) (j := 2) (v := .ref (r (120))) flX12_16 (by decide) rfl rfl dX12_send_134 ?_
          refine lv_iload_n C.1 C.2.1 dX12_send_137 rfl (lv_at hl 3 rfl) ?_
          refine lv_bipush (v := 16) C.1 C.2.1 dX12_send_138 (by decide) ?_
          refine lv_iadd C.1 C.2.1 dX12_send_140 ?_
          refine m_i (y := nI (q2 + 16)) (nI_add q2 16) ?_
          refine m_cvi C w hl cvX12_388 (k := 117) (by decide) rfl (q := (RX12, TX12, 58)) rfl rfl (As := [.ref (r (120)), .int (nI (q2 + 16))]) (rest := []) (c_X12_tells l D b0 r M_11 120 (q2 + 16) (by decide) rfl (by decide) (by omega) (by omega) (by omega)) rfl rfl (Nat.le_of_ble_eq_true rfl) ⟨Nat.le_of_ble_eq_true rfl, Nat.le_of_ble_eq_true rfl⟩ ⟨Nat.zero_le _, Nat.zero_le _⟩ dX12_send_141 (fun v_13 M_12 H locs e9 w => ?_)
          obtain ⟨ev_13, eM_12⟩ : v_13 = (f_X12_tells 120 (q2 + 16) M_11).1 ∧ M_12 = (f_X12_tells 120 (q2 + 16) M_11).2 := ⟨congrArg Prod.fst e9, congrArg Prod.snd e9⟩
          clear e9
          exact m_iret C w (by subst eq1 eq2 eM_6 eM_10 eM_11 ev_13 eM_12; exact Eq.symm (((if_pos hS).trans ((if_pos h_7).trans ((if_pos h_8).trans ((if_pos h_9).trans rfl)))))) dX12_send_144
        · refine lv_aload_n C.1 C.2.1 dX12_send_86 rfl (lv_at hl 1 rfl) ?_
          refine m_get C w (k := 117) (j := 52) (v := .ref (r (167))) flX12_232 (by decide) rfl rfl dX12_send_87 ?_
          refine lv_iload_n C.1 C.2.1 dX12_send_90 rfl (lv_at hl 2 rfl) ?_
          refine m_lald C w (k := 167) (i := q1) (n := 4) (wr := true) (by decide) rfl (by omega) (by decide) dX12_send_91 ?_
          refine lv_goto (tgt := 101) C.1 C.2.1 dX12_send_92 (by decide) ?_
          refine lv_aload_n C.1 C.2.1 dX12_send_101 rfl (lv_at hl 1 rfl) ?_
          refine m_get C w (k := 117) (j := 1) (v := .ref (r (119))) flX12_13 (by decide) rfl rfl dX12_send_102 ?_
          refine lv_iconst (v := 0) C.1 C.2.1 dX12_send_105 (by decide) ?_
          refine lv_iconst (v := 0) C.1 C.2.1 dX12_send_106 (by decide) ?_
          refine lv_aload_n C.1 C.2.1 dX12_send_107 rfl (lv_at hl 1 rfl) ?_
          refine m_get C w (k := 117) (j := 1) (v := .ref (r (119))) flX12_13 (by decide) rfl rfl dX12_send_108 ?_
          refine lv_iconst (v := 0) C.1 C.2.1 dX12_send_111 (by decide) ?_
          refine lv_iload_n C.1 C.2.1 dX12_send_112 rfl (lv_at hl 3 rfl) ?_
          refine lv_aload_n C.1 C.2.1 dX12_send_113 rfl (lv_at hl 1 rfl) ?_
          refine m_get C w (k := 117) (j := 2) (v := .ref (r (120))) flX12_16 (by decide) rfl rfl dX12_send_114 ?_
          refine lv_iconst (v := 0) C.1 C.2.1 dX12_send_117 (by decide) ?_
          refine m_cvv C w hl cvX12_394 (k := 117) (by decide) rfl (q := (RX12, TX12, 58)) rfl rfl (As := [.ref (r (157)), .int (nI (352 * q1 + 320)), .long (M_6.2 167 q1), .ref (r (119)), .int 0, .int 0, .ref (r (119)), .int 0, .int (nI (q2)), .ref (r (120)), .int 0]) (rest := []) (c_X12_seals l D b0 r M_6 157 (352 * q1 + 320) (M_6.2 167 q1) 119 0 0 119 0 q2 120 0 (by decide) rfl (by decide) (by omega) (by omega) (by decide) rfl (by decide) (by omega) (by omega) (by decide) rfl (by decide) (by omega) (by omega) (by decide) rfl (by decide) (by omega) (by omega)) rfl rfl (Nat.le_of_ble_eq_true rfl) ⟨Nat.le_of_ble_eq_true rfl, Nat.le_of_ble_eq_true rfl⟩ ⟨Nat.zero_le _, Nat.zero_le _⟩ dX12_send_118 (fun M_14 H locs eM_14 w => ?_)
          refine lv_aload_n C.1 C.2.1 dX12_send_121 rfl (lv_at hl 1 rfl) ?_
          refine lv_iload_n C.1 C.2.1 dX12_send_122 rfl (lv_at hl 2 rfl) ?_
          refine lv_aload_n C.1 C.2.1 dX12_send_123 rfl (lv_at hl 1 rfl) ?_
          refine m_get C w (k := 117) (j := 45) (v := .ref (r (160))) flX12_211 (by decide) rfl rfl dX12_send_124 ?_
          refine lv_iload_n C.1 C.2.1 dX12_send_127 rfl (lv_at hl 2 rfl) ?_
          refine m_zald C w (k := 160) (i := q1) (n := 4) (wr := true) (by decide) rfl (by omega) (by decide) dX12_send_128 ?_
          refine m_cvv C w hl cvX12_448 (k := 117) (by decide) rfl (q := (RX12, TX12, 58)) rfl rfl (As := [.int (nI (q1)), .int (M_14.1 160 q1)]) (rest := []) (c_X12_counts l D b0 r M_14 q1 (M_14.1 160 q1) (by omega)) rfl rfl (Nat.le_of_ble_eq_true rfl) ⟨Nat.le_of_ble_eq_true rfl, Nat.le_of_ble_eq_true rfl⟩ ⟨Nat.zero_le _, Nat.zero_le _⟩ dX12_send_129 (fun M_15 H locs eM_15 w => ?_)
          refine lv_aload_n C.1 C.2.1 dX12_send_132 rfl (lv_at hl 1 rfl) ?_
          refine lv_aload_n C.1 C.2.1 dX12_send_133 rfl (lv_at hl 1 rfl) ?_
          refine m_get C w (k := 117) (j := 2) (v := .ref (r (120))) flX12_16 (by decide) rfl rfl dX12_send_134 ?_
          refine lv_iload_n C.1 C.2.1 dX12_send_137 rfl (lv_at hl 3 rfl) ?_
          refine lv_bipush (v := 16) C.1 C.2.1 dX12_send_138 (by decide) ?_
          refine lv_iadd C.1 C.2.1 dX12_send_140 ?_
          refine m_i (y := nI (q2 + 16)) (nI_add q2 16) ?_
          refine m_cvi C w hl cvX12_388 (k := 117) (by decide) rfl (q := (RX12, TX12, 58)) rfl rfl (As := [.ref (r (120)), .int (nI (q2 + 16))]) (rest := []) (c_X12_tells l D b0 r M_15 120 (q2 + 16) (by decide) rfl (by decide) (by omega) (by omega) (by omega)) rfl rfl (Nat.le_of_ble_eq_true rfl) ⟨Nat.le_of_ble_eq_true rfl, Nat.le_of_ble_eq_true rfl⟩ ⟨Nat.zero_le _, Nat.zero_le _⟩ dX12_send_141 (fun v_17 M_16 H locs e9 w => ?_)
          obtain ⟨ev_17, eM_16⟩ : v_17 = (f_X12_tells 120 (q2 + 16) M_15).1 ∧ M_16 = (f_X12_tells 120 (q2 + 16) M_15).2 := ⟨congrArg Prod.fst e9, congrArg Prod.snd e9⟩
          clear e9
          exact m_iret C w (by subst eq1 eq2 eM_6 eM_14 eM_15 ev_17 eM_16; exact Eq.symm (((if_pos hS).trans ((if_pos h_7).trans ((if_pos h_8).trans ((if_neg h_9).trans rfl)))))) dX12_send_144
      · refine lv_sipush (v := 288) C.1 C.2.1 dX12_send_60 (by decide) ?_
        refine lv_goto (tgt := 69) C.1 C.2.1 dX12_send_63 (by decide) ?_
        refine lv_iadd C.1 C.2.1 dX12_send_69 ?_
        refine m_i (y := nI (352 * q1 + 288)) (nI_add (352 * q1) 288) ?_
        refine lv_istore_n (lv' := [(3, .int (nI (352 * q1 + 288))), (0, .ref (r (117))), (1, .int (nI (q1))), (2, .int (nI (q2)))]) C.1 C.2.1 dX12_send_70 rfl hl (by decide) rfl (fun ls hl => ?_)
        refine lv_aload_n C.1 C.2.1 dX12_send_71 rfl (lv_at hl 1 rfl) ?_
        refine lv_aload_n C.1 C.2.1 dX12_send_72 rfl (lv_at hl 1 rfl) ?_
        refine m_get C w (k := 117) (j := 42) (v := .ref (r (157))) flX12_201 (by decide) rfl rfl dX12_send_73 ?_
        refine lv_iload_n C.1 C.2.1 dX12_send_76 rfl (lv_at hl 0 rfl) ?_
        refine lv_aload_n C.1 C.2.1 dX12_send_77 rfl (lv_at hl 1 rfl) ?_
        refine m_get C w (k := 117) (j := 45) (v := .ref (r (160))) flX12_211 (by decide) rfl rfl dX12_send_78 ?_
        refine lv_iload_n C.1 C.2.1 dX12_send_81 rfl (lv_at hl 2 rfl) ?_
        refine m_zald C w (k := 160) (i := q1) (n := 4) (wr := true) (by decide) rfl (by omega) (by decide) dX12_send_82 ?_
        refine lv_if_eq (tgt := 95) C.1 C.2.1 dX12_send_83 (by decide) (fun h_18 => ?_) (fun h_18 => ?_)
        · refine lv_aload_n C.1 C.2.1 dX12_send_95 rfl (lv_at hl 1 rfl) ?_
          refine m_get C w (k := 117) (j := 53) (v := .ref (r (168))) flX12_235 (by decide) rfl rfl dX12_send_96 ?_
          refine lv_iload_n C.1 C.2.1 dX12_send_99 rfl (lv_at hl 2 rfl) ?_
          refine m_lald C w (k := 168) (i := q1) (n := 4) (wr := true) (by decide) rfl (by omega) (by decide) dX12_send_100 ?_
          refine lv_aload_n C.1 C.2.1 dX12_send_101 rfl (lv_at hl 1 rfl) ?_
          refine m_get C w (k := 117) (j := 1) (v := .ref (r (119))) flX12_13 (by decide) rfl rfl dX12_send_102 ?_
          refine lv_iconst (v := 0) C.1 C.2.1 dX12_send_105 (by decide) ?_
          refine lv_iconst (v := 0) C.1 C.2.1 dX12_send_106 (by decide) ?_
          refine lv_aload_n C.1 C.2.1 dX12_send_107 rfl (lv_at hl 1 rfl) ?_
          refine m_get C w (k := 117) (j := 1) (v := .ref (r (119))) flX12_13 (by decide) rfl rfl dX12_send_108 ?_
          refine lv_iconst (v := 0) C.1 C.2.1 dX12_send_111 (by decide) ?_
          refine lv_iload_n C.1 C.2.1 dX12_send_112 rfl (lv_at hl 3 rfl) ?_
          refine lv_aload_n C.1 C.2.1 dX12_send_113 rfl (lv_at hl 1 rfl) ?_
          refine m_get C w (k := 117) (j := 2) (v := .ref (r (120))) flX12_16 (by decide) rfl rfl dX12_send_114 ?_
          refine lv_iconst (v := 0) C.1 C.2.1 dX12_send_117 (by decide) ?_
          refine m_cvv C w hl cvX12_394 (k := 117) (by decide) rfl (q := (RX12, TX12, 58)) rfl rfl (As := [.ref (r (157)), .int (nI (352 * q1 + 288)), .long (M_6.2 168 q1), .ref (r (119)), .int 0, .int 0, .ref (r (119)), .int 0, .int (nI (q2)), .ref (r (120)), .int 0]) (rest := []) (c_X12_seals l D b0 r M_6 157 (352 * q1 + 288) (M_6.2 168 q1) 119 0 0 119 0 q2 120 0 (by decide) rfl (by decide) (by omega) (by omega) (by decide) rfl (by decide) (by omega) (by omega) (by decide) rfl (by decide) (by omega) (by omega) (by decide) rfl (by decide) (by omega) (by omega)) rfl rfl (Nat.le_of_ble_eq_true rfl) ⟨Nat.le_of_ble_eq_true rfl, Nat.le_of_ble_eq_true rfl⟩ ⟨Nat.zero_le _, Nat.zero_le _⟩ dX12_send_118 (fun M_19 H locs eM_19 w => ?_)
          refine lv_aload_n C.1 C.2.1 dX12_send_121 rfl (lv_at hl 1 rfl) ?_
          refine lv_iload_n C.1 C.2.1 dX12_send_122 rfl (lv_at hl 2 rfl) ?_
          refine lv_aload_n C.1 C.2.1 dX12_send_123 rfl (lv_at hl 1 rfl) ?_
          refine m_get C w (k := 117) (j := 45) (v := .ref (r (160))) flX12_211 (by decide) rfl rfl dX12_send_124 ?_
          refine lv_iload_n C.1 C.2.1 dX12_send_127 rfl (lv_at hl 2 rfl) ?_
          refine m_zald C w (k := 160) (i := q1) (n := 4) (wr := true) (by decide) rfl (by omega) (by decide) dX12_send_128 ?_
          refine m_cvv C w hl cvX12_448 (k := 117) (by decide) rfl (q := (RX12, TX12, 58)) rfl rfl (As := [.int (nI (q1)), .int (M_19.1 160 q1)]) (rest := []) (c_X12_counts l D b0 r M_19 q1 (M_19.1 160 q1) (by omega)) rfl rfl (Nat.le_of_ble_eq_true rfl) ⟨Nat.le_of_ble_eq_true rfl, Nat.le_of_ble_eq_true rfl⟩ ⟨Nat.zero_le _, Nat.zero_le _⟩ dX12_send_129 (fun M_20 H locs eM_20 w => ?_)
          refine lv_aload_n C.1 C.2.1 dX12_send_132 rfl (lv_at hl 1 rfl) ?_
          refine lv_aload_n C.1 C.2.1 dX12_send_133 rfl (lv_at hl 1 rfl) ?_
          refine m_get C w (k := 117) (j := 2) (v := .ref (r (120))) flX12_16 (by decide) rfl rfl dX12_send_134 ?_
          refine lv_iload_n C.1 C.2.1 dX12_send_137 rfl (lv_at hl 3 rfl) ?_
          refine lv_bipush (v := 16) C.1 C.2.1 dX12_send_138 (by decide) ?_
          refine lv_iadd C.1 C.2.1 dX12_send_140 ?_
          refine m_i (y := nI (q2 + 16)) (nI_add q2 16) ?_
          refine m_cvi C w hl cvX12_388 (k := 117) (by decide) rfl (q := (RX12, TX12, 58)) rfl rfl (As := [.ref (r (120)), .int (nI (q2 + 16))]) (rest := []) (c_X12_tells l D b0 r M_20 120 (q2 + 16) (by decide) rfl (by decide) (by omega) (by omega) (by omega)) rfl rfl (Nat.le_of_ble_eq_true rfl) ⟨Nat.le_of_ble_eq_true rfl, Nat.le_of_ble_eq_true rfl⟩ ⟨Nat.zero_le _, Nat.zero_le _⟩ dX12_send_141 (fun v_22 M_21 H locs e9 w => ?_)
          obtain ⟨ev_22, eM_21⟩ : v_22 = (f_X12_tells 120 (q2 + 16) M_20).1 ∧ M_21 = (f_X12_tells 120 (q2 + 16) M_20).2 := ⟨congrArg Prod.fst e9, congrArg Prod.snd e9⟩
          clear e9
          exact m_iret C w (by subst eq1 eq2 eM_6 eM_19 eM_20 ev_22 eM_21; exact Eq.symm (((if_pos hS).trans ((if_pos h_7).trans ((if_neg h_8).trans ((if_pos h_18).trans rfl)))))) dX12_send_144
        · refine lv_aload_n C.1 C.2.1 dX12_send_86 rfl (lv_at hl 1 rfl) ?_
          refine m_get C w (k := 117) (j := 52) (v := .ref (r (167))) flX12_232 (by decide) rfl rfl dX12_send_87 ?_
          refine lv_iload_n C.1 C.2.1 dX12_send_90 rfl (lv_at hl 2 rfl) ?_
          refine m_lald C w (k := 167) (i := q1) (n := 4) (wr := true) (by decide) rfl (by omega) (by decide) dX12_send_91 ?_
          refine lv_goto (tgt := 101) C.1 C.2.1 dX12_send_92 (by decide) ?_
          refine lv_aload_n C.1 C.2.1 dX12_send_101 rfl (lv_at hl 1 rfl) ?_
          refine m_get C w (k := 117) (j := 1) (v := .ref (r (119))) flX12_13 (by decide) rfl rfl dX12_send_102 ?_
          refine lv_iconst (v := 0) C.1 C.2.1 dX12_send_105 (by decide) ?_
          refine lv_iconst (v := 0) C.1 C.2.1 dX12_send_106 (by decide) ?_
          refine lv_aload_n C.1 C.2.1 dX12_send_107 rfl (lv_at hl 1 rfl) ?_
          refine m_get C w (k := 117) (j := 1) (v := .ref (r (119))) flX12_13 (by decide) rfl rfl dX12_send_108 ?_
          refine lv_iconst (v := 0) C.1 C.2.1 dX12_send_111 (by decide) ?_
          refine lv_iload_n C.1 C.2.1 dX12_send_112 rfl (lv_at hl 3 rfl) ?_
          refine lv_aload_n C.1 C.2.1 dX12_send_113 rfl (lv_at hl 1 rfl) ?_
          refine m_get C w (k := 117) (j := 2) (v := .ref (r (120))) flX12_16 (by decide) rfl rfl dX12_send_114 ?_
          refine lv_iconst (v := 0) C.1 C.2.1 dX12_send_117 (by decide) ?_
          refine m_cvv C w hl cvX12_394 (k := 117) (by decide) rfl (q := (RX12, TX12, 58)) rfl rfl (As := [.ref (r (157)), .int (nI (352 * q1 + 288)), .long (M_6.2 167 q1), .ref (r (119)), .int 0, .int 0, .ref (r (119)), .int 0, .int (nI (q2)), .ref (r (120)), .int 0]) (rest := []) (c_X12_seals l D b0 r M_6 157 (352 * q1 + 288) (M_6.2 167 q1) 119 0 0 119 0 q2 120 0 (by decide) rfl (by decide) (by omega) (by omega) (by decide) rfl (by decide) (by omega) (by omega) (by decide) rfl (by decide) (by omega) (by omega) (by decide) rfl (by decide) (by omega) (by omega)) rfl rfl (Nat.le_of_ble_eq_true rfl) ⟨Nat.le_of_ble_eq_true rfl, Nat.le_of_ble_eq_true rfl⟩ ⟨Nat.zero_le _, Nat.zero_le _⟩ dX12_send_118 (fun M_23 H locs eM_23 w => ?_)
          refine lv_aload_n C.1 C.2.1 dX12_send_121 rfl (lv_at hl 1 rfl) ?_
          refine lv_iload_n C.1 C.2.1 dX12_send_122 rfl (lv_at hl 2 rfl) ?_
          refine lv_aload_n C.1 C.2.1 dX12_send_123 rfl (lv_at hl 1 rfl) ?_
          refine m_get C w (k := 117) (j := 45) (v := .ref (r (160))) flX12_211 (by decide) rfl rfl dX12_send_124 ?_
          refine lv_iload_n C.1 C.2.1 dX12_send_127 rfl (lv_at hl 2 rfl) ?_
          refine m_zald C w (k := 160) (i := q1) (n := 4) (wr := true) (by decide) rfl (by omega) (by decide) dX12_send_128 ?_
          refine m_cvv C w hl cvX12_448 (k := 117) (by decide) rfl (q := (RX12, TX12, 58)) rfl rfl (As := [.int (nI (q1)), .int (M_23.1 160 q1)]) (rest := []) (c_X12_counts l D b0 r M_23 q1 (M_23.1 160 q1) (by omega)) rfl rfl (Nat.le_of_ble_eq_true rfl) ⟨Nat.le_of_ble_eq_true rfl, Nat.le_of_ble_eq_true rfl⟩ ⟨Nat.zero_le _, Nat.zero_le _⟩ dX12_send_129 (fun M_24 H locs eM_24 w => ?_)
          refine lv_aload_n C.1 C.2.1 dX12_send_132 rfl (lv_at hl 1 rfl) ?_
          refine lv_aload_n C.1 C.2.1 dX12_send_133 rfl (lv_at hl 1 rfl) ?_
          refine m_get C w (k := 117) (j := 2) (v := .ref (r (120))) flX12_16 (by decide) rfl rfl dX12_send_134 ?_
          refine lv_iload_n C.1 C.2.1 dX12_send_137 rfl (lv_at hl 3 rfl) ?_
          refine lv_bipush (v := 16) C.1 C.2.1 dX12_send_138 (by decide) ?_
          refine lv_iadd C.1 C.2.1 dX12_send_140 ?_
          refine m_i (y := nI (q2 + 16)) (nI_add q2 16) ?_
          refine m_cvi C w hl cvX12_388 (k := 117) (by decide) rfl (q := (RX12, TX12, 58)) rfl rfl (As := [.ref (r (120)), .int (nI (q2 + 16))]) (rest := []) (c_X12_tells l D b0 r M_24 120 (q2 + 16) (by decide) rfl (by decide) (by omega) (by omega) (by omega)) rfl rfl (Nat.le_of_ble_eq_true rfl) ⟨Nat.le_of_ble_eq_true rfl, Nat.le_of_ble_eq_true rfl⟩ ⟨Nat.zero_le _, Nat.zero_le _⟩ dX12_send_141 (fun v_26 M_25 H locs e9 w => ?_)
          obtain ⟨ev_26, eM_25⟩ : v_26 = (f_X12_tells 120 (q2 + 16) M_24).1 ∧ M_25 = (f_X12_tells 120 (q2 + 16) M_24).2 := ⟨congrArg Prod.fst e9, congrArg Prod.snd e9⟩
          clear e9
          exact m_iret C w (by subst eq1 eq2 eM_6 eM_23 eM_24 ev_26 eM_25; exact Eq.symm (((if_pos hS).trans ((if_pos h_7).trans ((if_neg h_8).trans ((if_neg h_18).trans rfl)))))) dX12_send_144
    · refine lv_iconst (v := (-1)) C.1 C.2.1 dX12_send_44 (by decide) ?_
      exact m_iret C w (by subst eq1 eq2 eM_6; exact Eq.symm (((if_pos hS).trans ((if_neg h_7).trans rfl)))) dX12_send_45
  · refine lv_aload_n C.1 C.2.1 dX12_send_0 rfl (lv_at hl 0 rfl) ?_
    refine lv_iload_n C.1 C.2.1 dX12_send_1 rfl (lv_at hl 1 rfl) ?_
    refine m_cvi C w hl cvX12_421 (k := 117) (by decide) rfl (q := (RX12, TX12, 58)) rfl rfl (As := [.int (v1)]) (rest := []) (c_X12_isSession l D b0 r M (v1) ) rfl rfl (Nat.le_of_ble_eq_true rfl) ⟨Nat.le_of_ble_eq_true rfl, Nat.le_of_ble_eq_true rfl⟩ ⟨Nat.zero_le _, Nat.zero_le _⟩ dX12_send_2 (fun v_27 M9 H locs e9 w => ?_)
    obtain ⟨ev_27, e9⟩ := e9
    rw [e9] at w
    subst ev_27
    refine lv_if_eq (tgt := 27) C.1 C.2.1 dX12_send_5 (by decide) (fun h_28 => ?_) (fun h_28 => ?_)
    · refine lv_bipush (v := (-2)) C.1 C.2.1 dX12_send_27 (by decide) ?_
      exact m_iret C w (by exact Eq.symm (((if_neg hS).trans ((if_pos h_28).trans rfl)))) dX12_send_29
    · refine lv_iload_n C.1 C.2.1 dX12_send_8 rfl (lv_at hl 2 rfl) ?_
      refine lv_iconst (v := 0) C.1 C.2.1 dX12_send_9 (by decide) ?_
      refine lv_sipush (v := 900) C.1 C.2.1 dX12_send_10 (by decide) ?_
      refine m_csi C w hl csX12_373 (As := [.int (v2), .int 0, .int 900]) (rest := []) (c_X12_in l D b0 r M (v2) (0 : Int32) (900 : Int32) ) rfl rfl (Nat.le_of_ble_eq_true rfl) ⟨Nat.le_of_ble_eq_true rfl, Nat.le_of_ble_eq_true rfl⟩ ⟨Nat.zero_le _, Nat.zero_le _⟩ dX12_send_13 (fun v_29 M9 H locs e9 w => ?_)
      obtain ⟨ev_29, e9⟩ := e9
      rw [e9] at w
      subst ev_29
      refine lv_if_eq (tgt := 27) C.1 C.2.1 dX12_send_16 (by decide) (fun h_30 => ?_) (fun h_30 => ?_)
      · refine lv_bipush (v := (-2)) C.1 C.2.1 dX12_send_27 (by decide) ?_
        exact m_iret C w (by exact Eq.symm (((if_neg hS).trans ((if_neg h_28).trans ((if_pos h_30).trans rfl))))) dX12_send_29
      · refine lv_iload_n C.1 C.2.1 dX12_send_19 rfl (lv_at hl 2 rfl) ?_
        refine lv_aload_n C.1 C.2.1 dX12_send_20 rfl (lv_at hl 0 rfl) ?_
        refine m_get C w (k := 117) (j := 4) (v := .int (M.1 117 4)) flX12_364 (by decide) rfl rfl dX12_send_21 ?_
        refine m_i (y := nI (ts)) h1 ?_
        refine lv_icmp_le (tgt := 30) C.1 C.2.1 dX12_send_24 (by decide) (fun h_31 => absurd h_31 (fun q => hS ⟨h_28, h_30, q⟩)) (fun _ => ?_)
        refine lv_bipush (v := (-2)) C.1 C.2.1 dX12_send_27 (by decide) ?_
        exact m_iret C w (by exact Eq.symm (((if_neg hS).trans ((if_neg h_28).trans ((if_neg h_30).trans rfl))))) dX12_send_29

def f_X12_receive_B1 (q1 : Nat) (q2 : Nat) (M_9 : mm_M) : Int32 × mm_M :=
  if ¬ (M_9.1 160 q1) = (0 : Int32) then (let M_13 := f_X12_counts q1 (0 : Int32) M_9
  let v_15 := (f_X12_tells 120 (q2 - 16) M_13).1
  let M_14 := (f_X12_tells 120 (q2 - 16) M_13).2
  ((v_15), M_14)) else (let M_16 := f_X12_counts q1 (1 : Int32) M_9
  let v_18 := (f_X12_tells 120 (q2 - 16) M_16).1
  let M_17 := (f_X12_tells 120 (q2 - 16) M_16).2
  ((v_18), M_17))
theorem w_f_X12_receive_B1 (q1 : Nat) (q2 : Nat) (M_9 : mm_M) : mm_fr2 [168, 167, 121, 117] M_9 (f_X12_receive_B1 q1 q2 M_9) := by
  unfold f_X12_receive_B1
  exact (mm_fr_ite2 (fun _ => ((w_f_X12_tells _ _ _).m.on (by simp) ((w_f_X12_counts _ _ _).on (by simp) (mm_fr_refl _ _))).b) (fun _ => ((w_f_X12_tells _ _ _).m.on (by simp) ((w_f_X12_counts _ _ _).on (by simp) (mm_fr_refl _ _))).b))
def f_X12_receive_B2 (q1 : Nat) (q2 : Nat) (M_9 : mm_M) (v_10 : Int32) : Int32 × mm_M :=
  if ¬ (v_10) = (0 : Int32) then (f_X12_receive_B1 q1 q2 M_9) else (let M_19 := mm_w M_9 165 q1 ((M_9.1 165 q1) + (1 : Int32))
  ((-1 : Int32), M_19))
theorem w_f_X12_receive_B2 (q1 : Nat) (q2 : Nat) (M_9 : mm_M) (v_10 : Int32) : mm_fr2 [168, 167, 121, 117, 165] M_9 (f_X12_receive_B2 q1 q2 M_9 v_10) := by
  unfold f_X12_receive_B2
  exact (mm_fr_ite2 (fun _ => ((w_f_X12_receive_B1 _ _ _).on (by simp) (mm_fr_refl _ _))) (fun _ => (mm_fr_w (by simp) (mm_fr_refl _ _)).b))
def f_X12_receive_B3 (q1 : Nat) (q2 : Nat) (M_5 : mm_M) : Int32 × mm_M :=
  if (M_5.1 160 q1) = (0 : Int32) then (let v_10 := (f_X12_opens 157 (352 * q1 + 288) (M_5.2 167 q1) 119 0 0 119 0 q2 120 0 M_5).1
  let M_9 := (f_X12_opens 157 (352 * q1 + 288) (M_5.2 167 q1) 119 0 0 119 0 q2 120 0 M_5).2
  f_X12_receive_B2 q1 q2 M_9 v_10) else (let v_21 := (f_X12_opens 157 (352 * q1 + 288) (M_5.2 168 q1) 119 0 0 119 0 q2 120 0 M_5).1
  let M_20 := (f_X12_opens 157 (352 * q1 + 288) (M_5.2 168 q1) 119 0 0 119 0 q2 120 0 M_5).2
  f_X12_receive_B2 q1 q2 M_20 v_21)
theorem w_f_X12_receive_B3 (q1 : Nat) (q2 : Nat) (M_5 : mm_M) : mm_fr2 [147, 149, 148, 155, 151, 150, 152, 153, 156, 154, 120, 168, 167, 121, 117, 165] M_5 (f_X12_receive_B3 q1 q2 M_5) := by
  unfold f_X12_receive_B3
  exact (mm_fr_ite2 (fun _ => ((w_f_X12_receive_B2 _ _ _ _).on (by simp) ((w_f_X12_opens _ _ _ _ _ _ _ _ _ _ _ _).m.on (by simp) (mm_fr_refl _ _)))) (fun _ => ((w_f_X12_receive_B2 _ _ _ _).on (by simp) ((w_f_X12_opens _ _ _ _ _ _ _ _ _ _ _ _).m.on (by simp) (mm_fr_refl _ _)))))
def f_X12_receive_B4 (q1 : Nat) (q2 : Nat) (M_5 : mm_M) : Int32 × mm_M :=
  if (M_5.1 160 q1) = (0 : Int32) then (let v_33 := (f_X12_opens 157 (352 * q1 + 320) (M_5.2 167 q1) 119 0 0 119 0 q2 120 0 M_5).1
  let M_32 := (f_X12_opens 157 (352 * q1 + 320) (M_5.2 167 q1) 119 0 0 119 0 q2 120 0 M_5).2
  f_X12_receive_B2 q1 q2 M_32 v_33) else (let v_44 := (f_X12_opens 157 (352 * q1 + 320) (M_5.2 168 q1) 119 0 0 119 0 q2 120 0 M_5).1
  let M_43 := (f_X12_opens 157 (352 * q1 + 320) (M_5.2 168 q1) 119 0 0 119 0 q2 120 0 M_5).2
  f_X12_receive_B2 q1 q2 M_43 v_44)
theorem w_f_X12_receive_B4 (q1 : Nat) (q2 : Nat) (M_5 : mm_M) : mm_fr2 [147, 149, 148, 155, 151, 150, 152, 153, 156, 154, 120, 168, 167, 121, 117, 165] M_5 (f_X12_receive_B4 q1 q2 M_5) := by
  unfold f_X12_receive_B4
  exact (mm_fr_ite2 (fun _ => ((w_f_X12_receive_B2 _ _ _ _).on (by simp) ((w_f_X12_opens _ _ _ _ _ _ _ _ _ _ _ _).m.on (by simp) (mm_fr_refl _ _)))) (fun _ => ((w_f_X12_receive_B2 _ _ _ _).on (by simp) ((w_f_X12_opens _ _ _ _ _ _ _ _ _ _ _ _).m.on (by simp) (mm_fr_refl _ _)))))
def f_X12_receive_B5 (q1 : Nat) (q2 : Nat) (M_5 : mm_M) : Int32 × mm_M :=
  if (M_5.1 160 q1) = (0 : Int32) then (f_X12_receive_B3 q1 q2 M_5) else (f_X12_receive_B4 q1 q2 M_5)
theorem w_f_X12_receive_B5 (q1 : Nat) (q2 : Nat) (M_5 : mm_M) : mm_fr2 [147, 149, 148, 155, 151, 150, 152, 153, 156, 154, 120, 168, 167, 121, 117, 165] M_5 (f_X12_receive_B5 q1 q2 M_5) := by
  unfold f_X12_receive_B5
  exact (mm_fr_ite2 (fun _ => ((w_f_X12_receive_B3 _ _ _).on (by simp) (mm_fr_refl _ _))) (fun _ => ((w_f_X12_receive_B4 _ _ _).on (by simp) (mm_fr_refl _ _))))
def f_X12_receive_B6 (q1 : Nat) (q2 : Nat) (M_5 : mm_M) : Int32 × mm_M :=
  if (3 : Int32) ≤ (M_5.1 164 q1) then (f_X12_receive_B5 q1 q2 M_5) else (((-1 : Int32), M_5))
theorem w_f_X12_receive_B6 (q1 : Nat) (q2 : Nat) (M_5 : mm_M) : mm_fr2 [147, 149, 148, 155, 151, 150, 152, 153, 156, 154, 120, 168, 167, 121, 117, 165] M_5 (f_X12_receive_B6 q1 q2 M_5) := by
  unfold f_X12_receive_B6
  exact (mm_fr_ite2 (fun _ => ((w_f_X12_receive_B5 _ _ _).on (by simp) (mm_fr_refl _ _))) (fun _ => (mm_fr_refl _ _).b))
def f_X12_receive (v1 : Int32) (v2 : Int32) (ts : Nat) (M : mm_M) : Int32 × mm_M :=
  if ¬ f_X12_isSession v1 M = 0 ∧ ¬ f_X12_in v2 0 (nI ts) = 0 then (let q1 := (v1).toNatClampNeg
  let q2 := (v2).toNatClampNeg
  let M_5 := f_X12_takes ts M
  f_X12_receive_B6 q1 q2 M_5) else (if (f_X12_isSession (v1) M) = (0 : Int32) then (((-2 : Int32), M)) else (((-2 : Int32), M)))
theorem w_f_X12_receive (v1 : Int32) (v2 : Int32) (ts : Nat) (M : mm_M) : mm_fr2 [119, 117, 147, 149, 148, 155, 151, 150, 152, 153, 156, 154, 120, 168, 167, 121, 165] M (f_X12_receive v1 v2 ts M) := by
  unfold f_X12_receive
  exact (mm_fr_ite2 (fun _ => ((w_f_X12_receive_B6 _ _ _).on (by simp) ((w_f_X12_takes _ _).on (by simp) (mm_fr_refl _ _)))) (fun _ => (mm_fr_ite2 (fun _ => (mm_fr_refl _ _).b) (fun _ => (mm_fr_refl _ _).b))))
set_option maxHeartbeats 4000000 in
set_option maxRecDepth 100000 in
theorem c_X12_receive (l : Launch) (D : va_G) (b0 : Nat) (r : Nat → Nat) (M : mm_M) (v1 : Int32) (v2 : Int32) (ts : Nat) (hts : ts ≤ 1000) (h1 : M.1 117 4 = nI ts) : mm_Mi l yX12_receive cX12_receive 4 .int 5 135 D b0 r [.ref (r (117)), .int (v1), .int (v2)] M (fun v M' => (v, M') = f_X12_receive v1 v2 ts M) := by
  refine mm_enter (cc := cX12_receive) (nL := 4) (ret := (some .int)) (by decide) (Nat.le_of_ble_eq_true rfl) ?_
  intro p e s m args below meth c C w ls hl
  have hl : lv_has ls 4 [(0, .ref (r (117))), (1, .int (v1)), (2, .int (v2))] := hl
  by_cases hS : ¬ f_X12_isSession v1 M = 0 ∧ ¬ f_X12_in v2 0 (nI ts) = 0
  · obtain ⟨q1, eq1⟩ : ∃ zz, zz = (v1).toNatClampNeg := ⟨_, rfl⟩
    obtain ⟨hvq1, hbq1⟩ : v1 = nI q1 ∧ q1 < 4 := by rw [eq1]; exact g_isSession2 hS.1
    rw [hvq1] at hl
    obtain ⟨q2, eq2⟩ : ∃ zz, zz = (v2).toNatClampNeg := ⟨_, rfl⟩
    obtain ⟨hvq2, hbq2⟩ : v2 = nI q2 ∧ q2 ≤ ts := by rw [eq2]; exact g_inN (by omega) hS.2
    rw [hvq2] at hl
    have hTq1 : ¬ f_X12_isSession (nI q1) M = 0 := by rw [← hvq1]; exact hS.1
    have hTq2 : ¬ f_X12_in (nI q2) 0 (nI ts) = 0 := by rw [← hvq2]; exact hS.2
    refine lv_aload_n C.1 C.2.1 dX12_receive_0 rfl (lv_at hl 0 rfl) ?_
    refine lv_iload_n C.1 C.2.1 dX12_receive_1 rfl (lv_at hl 1 rfl) ?_
    refine m_cvi C w hl cvX12_421 (k := 117) (by decide) rfl (q := (RX12, TX12, 58)) rfl rfl (As := [.int (nI (q1))]) (rest := []) (c_X12_isSession l D b0 r M (nI (q1)) ) rfl rfl (Nat.le_of_ble_eq_true rfl) ⟨Nat.le_of_ble_eq_true rfl, Nat.le_of_ble_eq_true rfl⟩ ⟨Nat.zero_le _, Nat.zero_le _⟩ dX12_receive_2 (fun v_1 M9 H locs e9 w => ?_)
    obtain ⟨ev_1, e9⟩ := e9
    rw [e9] at w
    subst ev_1
    refine lv_if_eq (tgt := 20) C.1 C.2.1 dX12_receive_5 (by decide) (fun h_2 => absurd h_2 hTq1) (fun _ => ?_)
    refine lv_iload_n C.1 C.2.1 dX12_receive_8 rfl (lv_at hl 2 rfl) ?_
    refine lv_iconst (v := 0) C.1 C.2.1 dX12_receive_9 (by decide) ?_
    refine lv_aload_n C.1 C.2.1 dX12_receive_10 rfl (lv_at hl 0 rfl) ?_
    refine m_get C w (k := 117) (j := 4) (v := .int (M.1 117 4)) flX12_364 (by decide) rfl rfl dX12_receive_11 ?_
    refine m_i (y := nI (ts)) h1 ?_
    refine m_csi C w hl csX12_373 (As := [.int (nI (q2)), .int 0, .int (nI (ts))]) (rest := []) (c_X12_in l D b0 r M (nI (q2)) (0 : Int32) (nI (ts)) ) rfl rfl (Nat.le_of_ble_eq_true rfl) ⟨Nat.le_of_ble_eq_true rfl, Nat.le_of_ble_eq_true rfl⟩ ⟨Nat.zero_le _, Nat.zero_le _⟩ dX12_receive_14 (fun v_3 M9 H locs e9 w => ?_)
    obtain ⟨ev_3, e9⟩ := e9
    rw [e9] at w
    subst ev_3
    refine lv_if_ne (tgt := 23) C.1 C.2.1 dX12_receive_17 (by decide) (fun _ => ?_) (fun h_4 => absurd h_4 hTq2)
    refine lv_aload_n C.1 C.2.1 dX12_receive_23 rfl (lv_at hl 0 rfl) ?_
    refine m_cvv C w hl cvX12_381 (k := 117) (by decide) rfl (q := (RX12, TX12, 58)) rfl rfl (As := []) (rest := []) (c_X12_takes l D b0 r M ts (by omega) h1) rfl rfl (Nat.le_of_ble_eq_true rfl) ⟨Nat.le_of_ble_eq_true rfl, Nat.le_of_ble_eq_true rfl⟩ ⟨Nat.zero_le _, Nat.zero_le _⟩ dX12_receive_24 (fun M_5 H locs eM_5 w => ?_)
    refine lv_aload_n C.1 C.2.1 dX12_receive_27 rfl (lv_at hl 0 rfl) ?_
    refine m_get C w (k := 117) (j := 49) (v := .ref (r (164))) flX12_223 (by decide) rfl rfl dX12_receive_28 ?_
    refine lv_iload_n C.1 C.2.1 dX12_receive_31 rfl (lv_at hl 1 rfl) ?_
    refine m_iald C w (k := 164) (i := q1) (n := 4) (wr := true) (by decide) rfl (by omega) (by decide) dX12_receive_32 ?_
    refine lv_iconst (v := 3) C.1 C.2.1 dX12_receive_33 (by decide) ?_
    refine lv_icmp_ge (tgt := 39) C.1 C.2.1 dX12_receive_34 (by decide) (fun h_6 => ?_) (fun h_6 => ?_)
    · refine lv_sipush (v := 352) C.1 C.2.1 dX12_receive_39 (by decide) ?_
      refine lv_iload_n C.1 C.2.1 dX12_receive_42 rfl (lv_at hl 1 rfl) ?_
      refine lv_imul C.1 C.2.1 dX12_receive_43 ?_
      refine m_i (y := nI (352 * q1)) (pk_mul 352 q1) ?_
      refine lv_aload_n C.1 C.2.1 dX12_receive_44 rfl (lv_at hl 0 rfl) ?_
      refine m_get C w (k := 117) (j := 45) (v := .ref (r (160))) flX12_211 (by decide) rfl rfl dX12_receive_45 ?_
      refine lv_iload_n C.1 C.2.1 dX12_receive_48 rfl (lv_at hl 1 rfl) ?_
      refine m_zald C w (k := 160) (i := q1) (n := 4) (wr := true) (by decide) rfl (by omega) (by decide) dX12_receive_49 ?_
      refine lv_if_eq (tgt := 59) C.1 C.2.1 dX12_receive_50 (by decide) (fun h_7 => ?_) (fun h_7 => ?_)
      · refine lv_sipush (v := 288) C.1 C.2.1 dX12_receive_59 (by decide) ?_
        refine lv_iadd C.1 C.2.1 dX12_receive_62 ?_
        refine m_i (y := nI (352 * q1 + 288)) (nI_add (352 * q1) 288) ?_
        refine lv_istore_n (lv' := [(3, .int (nI (352 * q1 + 288))), (0, .ref (r (117))), (1, .int (nI (q1))), (2, .int (nI (q2)))]) C.1 C.2.1 dX12_receive_63 rfl hl (by decide) rfl (fun ls hl => ?_)
        refine lv_aload_n C.1 C.2.1 dX12_receive_64 rfl (lv_at hl 1 rfl) ?_
        refine lv_aload_n C.1 C.2.1 dX12_receive_65 rfl (lv_at hl 1 rfl) ?_
        refine m_get C w (k := 117) (j := 42) (v := .ref (r (157))) flX12_201 (by decide) rfl rfl dX12_receive_66 ?_
        refine lv_iload_n C.1 C.2.1 dX12_receive_69 rfl (lv_at hl 0 rfl) ?_
        refine lv_aload_n C.1 C.2.1 dX12_receive_70 rfl (lv_at hl 1 rfl) ?_
        refine m_get C w (k := 117) (j := 45) (v := .ref (r (160))) flX12_211 (by decide) rfl rfl dX12_receive_71 ?_
        refine lv_iload_n C.1 C.2.1 dX12_receive_74 rfl (lv_at hl 2 rfl) ?_
        refine m_zald C w (k := 160) (i := q1) (n := 4) (wr := true) (by decide) rfl (by omega) (by decide) dX12_receive_75 ?_
        refine lv_if_eq (tgt := 88) C.1 C.2.1 dX12_receive_76 (by decide) (fun h_8 => ?_) (fun h_8 => ?_)
        · refine lv_aload_n C.1 C.2.1 dX12_receive_88 rfl (lv_at hl 1 rfl) ?_
          refine m_get C w (k := 117) (j := 52) (v := .ref (r (167))) flX12_232 (by decide) rfl rfl dX12_receive_89 ?_
          refine lv_iload_n C.1 C.2.1 dX12_receive_92 rfl (lv_at hl 2 rfl) ?_
          refine m_lald C w (k := 167) (i := q1) (n := 4) (wr := true) (by decide) rfl (by omega) (by decide) dX12_receive_93 ?_
          refine lv_aload_n C.1 C.2.1 dX12_receive_94 rfl (lv_at hl 1 rfl) ?_
          refine m_get C w (k := 117) (j := 1) (v := .ref (r (119))) flX12_13 (by decide) rfl rfl dX12_receive_95 ?_
          refine lv_iconst (v := 0) C.1 C.2.1 dX12_receive_98 (by decide) ?_
          refine lv_iconst (v := 0) C.1 C.2.1 dX12_receive_99 (by decide) ?_
          refine lv_aload_n C.1 C.2.1 dX12_receive_100 rfl (lv_at hl 1 rfl) ?_
          refine m_get C w (k := 117) (j := 1) (v := .ref (r (119))) flX12_13 (by decide) rfl rfl dX12_receive_101 ?_
          refine lv_iconst (v := 0) C.1 C.2.1 dX12_receive_104 (by decide) ?_
          refine lv_iload_n C.1 C.2.1 dX12_receive_105 rfl (lv_at hl 3 rfl) ?_
          refine lv_aload_n C.1 C.2.1 dX12_receive_106 rfl (lv_at hl 1 rfl) ?_
          refine m_get C w (k := 117) (j := 2) (v := .ref (r (120))) flX12_16 (by decide) rfl rfl dX12_receive_107 ?_
          refine lv_iconst (v := 0) C.1 C.2.1 dX12_receive_110 (by decide) ?_
          refine m_cvi C w hl cvX12_398 (k := 117) (by decide) rfl (q := (RX12, TX12, 58)) rfl rfl (As := [.ref (r (157)), .int (nI (352 * q1 + 288)), .long (M_5.2 167 q1), .ref (r (119)), .int 0, .int 0, .ref (r (119)), .int 0, .int (nI (q2)), .ref (r (120)), .int 0]) (rest := []) (c_X12_opens l D b0 r M_5 157 (352 * q1 + 288) (M_5.2 167 q1) 119 0 0 119 0 q2 120 0 (by decide) rfl (by decide) (by omega) (by omega) (by decide) rfl (by decide) (by omega) (by omega) (by decide) rfl (by decide) (by omega) (by omega) (by decide) rfl (by decide) (by omega) (by omega)) rfl rfl (Nat.le_of_ble_eq_true rfl) ⟨Nat.le_of_ble_eq_true rfl, Nat.le_of_ble_eq_true rfl⟩ ⟨Nat.zero_le _, Nat.zero_le _⟩ dX12_receive_111 (fun v_10 M_9 H locs e9 w => ?_)
          obtain ⟨ev_10, eM_9⟩ : v_10 = (f_X12_opens 157 (352 * q1 + 288) (M_5.2 167 q1) 119 0 0 119 0 q2 120 0 M_5).1 ∧ M_9 = (f_X12_opens 157 (352 * q1 + 288) (M_5.2 167 q1) 119 0 0 119 0 q2 120 0 M_5).2 := ⟨congrArg Prod.fst e9, congrArg Prod.snd e9⟩
          clear e9
          refine lv_if_ne (tgt := 129) C.1 C.2.1 dX12_receive_114 (by decide) (fun h_11 => ?_) (fun h_11 => ?_)
          · have h16 : 16 ≤ q2 := r_X12_opens (fun q => h_11 (ev_10.trans q))
            refine lv_aload_n C.1 C.2.1 dX12_receive_129 rfl (lv_at hl 1 rfl) ?_
            refine lv_iload_n C.1 C.2.1 dX12_receive_130 rfl (lv_at hl 2 rfl) ?_
            refine lv_aload_n C.1 C.2.1 dX12_receive_131 rfl (lv_at hl 1 rfl) ?_
            refine m_get C w (k := 117) (j := 45) (v := .ref (r (160))) flX12_211 (by decide) rfl rfl dX12_receive_132 ?_
            refine lv_iload_n C.1 C.2.1 dX12_receive_135 rfl (lv_at hl 2 rfl) ?_
            refine m_zald C w (k := 160) (i := q1) (n := 4) (wr := true) (by decide) rfl (by omega) (by decide) dX12_receive_136 ?_
            refine lv_if_ne (tgt := 144) C.1 C.2.1 dX12_receive_137 (by decide) (fun h_12 => ?_) (fun h_12 => ?_)
            · refine lv_iconst (v := 0) C.1 C.2.1 dX12_receive_144 (by decide) ?_
              refine m_cvv C w hl cvX12_448 (k := 117) (by decide) rfl (q := (RX12, TX12, 58)) rfl rfl (As := [.int (nI (q1)), .int 0]) (rest := []) (c_X12_counts l D b0 r M_9 q1 (0 : Int32) (by omega)) rfl rfl (Nat.le_of_ble_eq_true rfl) ⟨Nat.le_of_ble_eq_true rfl, Nat.le_of_ble_eq_true rfl⟩ ⟨Nat.zero_le _, Nat.zero_le _⟩ dX12_receive_145 (fun M_13 H locs eM_13 w => ?_)
              refine lv_aload_n C.1 C.2.1 dX12_receive_148 rfl (lv_at hl 1 rfl) ?_
              refine lv_aload_n C.1 C.2.1 dX12_receive_149 rfl (lv_at hl 1 rfl) ?_
              refine m_get C w (k := 117) (j := 2) (v := .ref (r (120))) flX12_16 (by decide) rfl rfl dX12_receive_150 ?_
              refine lv_iload_n C.1 C.2.1 dX12_receive_153 rfl (lv_at hl 3 rfl) ?_
              refine lv_bipush (v := 16) C.1 C.2.1 dX12_receive_154 (by decide) ?_
              refine lv_isub C.1 C.2.1 dX12_receive_156 ?_
              refine m_i (y := nI (q2 - 16)) (pk_sub (a := q2) (b := 16) (by omega)) ?_
              refine m_cvi C w hl cvX12_388 (k := 117) (by decide) rfl (q := (RX12, TX12, 58)) rfl rfl (As := [.ref (r (120)), .int (nI (q2 - 16))]) (rest := []) (c_X12_tells l D b0 r M_13 120 (q2 - 16) (by decide) rfl (by decide) (by omega) (by omega) (by omega)) rfl rfl (Nat.le_of_ble_eq_true rfl) ⟨Nat.le_of_ble_eq_true rfl, Nat.le_of_ble_eq_true rfl⟩ ⟨Nat.zero_le _, Nat.zero_le _⟩ dX12_receive_157 (fun v_15 M_14 H locs e9 w => ?_)
              obtain ⟨ev_15, eM_14⟩ : v_15 = (f_X12_tells 120 (q2 - 16) M_13).1 ∧ M_14 = (f_X12_tells 120 (q2 - 16) M_13).2 := ⟨congrArg Prod.fst e9, congrArg Prod.snd e9⟩
              clear e9
              exact m_iret C w (by subst eq1 eq2 eM_5 ev_10 eM_9 eM_13 ev_15 eM_14; exact Eq.symm (((if_pos hS).trans ((if_pos h_6).trans ((if_pos h_7).trans ((if_pos h_8).trans ((if_pos h_11).trans ((if_pos h_12).trans rfl)))))))) dX12_receive_160
            · refine lv_iconst (v := 1) C.1 C.2.1 dX12_receive_140 (by decide) ?_
              refine lv_goto (tgt := 145) C.1 C.2.1 dX12_receive_141 (by decide) ?_
              refine m_cvv C w hl cvX12_448 (k := 117) (by decide) rfl (q := (RX12, TX12, 58)) rfl rfl (As := [.int (nI (q1)), .int 1]) (rest := []) (c_X12_counts l D b0 r M_9 q1 (1 : Int32) (by omega)) rfl rfl (Nat.le_of_ble_eq_true rfl) ⟨Nat.le_of_ble_eq_true rfl, Nat.le_of_ble_eq_true rfl⟩ ⟨Nat.zero_le _, Nat.zero_le _⟩ dX12_receive_145 (fun M_16 H locs eM_16 w => ?_)
              refine lv_aload_n C.1 C.2.1 dX12_receive_148 rfl (lv_at hl 1 rfl) ?_
              refine lv_aload_n C.1 C.2.1 dX12_receive_149 rfl (lv_at hl 1 rfl) ?_
              refine m_get C w (k := 117) (j := 2) (v := .ref (r (120))) flX12_16 (by decide) rfl rfl dX12_receive_150 ?_
              refine lv_iload_n C.1 C.2.1 dX12_receive_153 rfl (lv_at hl 3 rfl) ?_
              refine lv_bipush (v := 16) C.1 C.2.1 dX12_receive_154 (by decide) ?_
              refine lv_isub C.1 C.2.1 dX12_receive_156 ?_
              refine m_i (y := nI (q2 - 16)) (pk_sub (a := q2) (b := 16) (by omega)) ?_
              refine m_cvi C w hl cvX12_388 (k := 117) (by decide) rfl (q := (RX12, TX12, 58)) rfl rfl (As := [.ref (r (120)), .int (nI (q2 - 16))]) (rest := []) (c_X12_tells l D b0 r M_16 120 (q2 - 16) (by decide) rfl (by decide) (by omega) (by omega) (by omega)) rfl rfl (Nat.le_of_ble_eq_true rfl) ⟨Nat.le_of_ble_eq_true rfl, Nat.le_of_ble_eq_true rfl⟩ ⟨Nat.zero_le _, Nat.zero_le _⟩ dX12_receive_157 (fun v_18 M_17 H locs e9 w => ?_)
              obtain ⟨ev_18, eM_17⟩ : v_18 = (f_X12_tells 120 (q2 - 16) M_16).1 ∧ M_17 = (f_X12_tells 120 (q2 - 16) M_16).2 := ⟨congrArg Prod.fst e9, congrArg Prod.snd e9⟩
              clear e9
              exact m_iret C w (by subst eq1 eq2 eM_5 ev_10 eM_9 eM_16 ev_18 eM_17; exact Eq.symm (((if_pos hS).trans ((if_pos h_6).trans ((if_pos h_7).trans ((if_pos h_8).trans ((if_pos h_11).trans ((if_neg (fun q => q h_12)).trans rfl)))))))) dX12_receive_160
          · refine lv_aload_n C.1 C.2.1 dX12_receive_117 rfl (lv_at hl 1 rfl) ?_
            refine m_get C w (k := 117) (j := 50) (v := .ref (r (165))) flX12_226 (by decide) rfl rfl dX12_receive_118 ?_
            refine lv_iload_n C.1 C.2.1 dX12_receive_121 rfl (lv_at hl 2 rfl) ?_
            refine lv_dup2_11 C.1 C.2.1 dX12_receive_122 rfl rfl ?_
            refine m_iald C w (k := 165) (i := q1) (n := 4) (wr := true) (by decide) rfl (by omega) (by decide) dX12_receive_123 ?_
            refine lv_iconst (v := 1) C.1 C.2.1 dX12_receive_124 (by decide) ?_
            refine lv_iadd C.1 C.2.1 dX12_receive_125 ?_
            refine m_iast C w (k := 165) (i := q1) (n := 4) (x := ((M_9.1 165 q1) + (1 : Int32))) (by decide) rfl (by omega) (by decide) dX12_receive_126 (fun H locs w => ?_)
            obtain ⟨M_19, eM_19⟩ : ∃ zz, zz = mm_w M_9 165 q1 ((M_9.1 165 q1) + (1 : Int32)) := ⟨_, rfl⟩
            rw [← eM_19] at w
            refine lv_iconst (v := (-1)) C.1 C.2.1 dX12_receive_127 (by decide) ?_
            exact m_iret C w (by subst eq1 eq2 eM_5 ev_10 eM_9 eM_19; exact Eq.symm (((if_pos hS).trans ((if_pos h_6).trans ((if_pos h_7).trans ((if_pos h_8).trans ((if_neg (fun q => q h_11)).trans rfl))))))) dX12_receive_128
        · refine lv_aload_n C.1 C.2.1 dX12_receive_79 rfl (lv_at hl 1 rfl) ?_
          refine m_get C w (k := 117) (j := 53) (v := .ref (r (168))) flX12_235 (by decide) rfl rfl dX12_receive_80 ?_
          refine lv_iload_n C.1 C.2.1 dX12_receive_83 rfl (lv_at hl 2 rfl) ?_
          refine m_lald C w (k := 168) (i := q1) (n := 4) (wr := true) (by decide) rfl (by omega) (by decide) dX12_receive_84 ?_
          refine lv_goto (tgt := 94) C.1 C.2.1 dX12_receive_85 (by decide) ?_
          refine lv_aload_n C.1 C.2.1 dX12_receive_94 rfl (lv_at hl 1 rfl) ?_
          refine m_get C w (k := 117) (j := 1) (v := .ref (r (119))) flX12_13 (by decide) rfl rfl dX12_receive_95 ?_
          refine lv_iconst (v := 0) C.1 C.2.1 dX12_receive_98 (by decide) ?_
          refine lv_iconst (v := 0) C.1 C.2.1 dX12_receive_99 (by decide) ?_
          refine lv_aload_n C.1 C.2.1 dX12_receive_100 rfl (lv_at hl 1 rfl) ?_
          refine m_get C w (k := 117) (j := 1) (v := .ref (r (119))) flX12_13 (by decide) rfl rfl dX12_receive_101 ?_
          refine lv_iconst (v := 0) C.1 C.2.1 dX12_receive_104 (by decide) ?_
          refine lv_iload_n C.1 C.2.1 dX12_receive_105 rfl (lv_at hl 3 rfl) ?_
          refine lv_aload_n C.1 C.2.1 dX12_receive_106 rfl (lv_at hl 1 rfl) ?_
          refine m_get C w (k := 117) (j := 2) (v := .ref (r (120))) flX12_16 (by decide) rfl rfl dX12_receive_107 ?_
          refine lv_iconst (v := 0) C.1 C.2.1 dX12_receive_110 (by decide) ?_
          refine m_cvi C w hl cvX12_398 (k := 117) (by decide) rfl (q := (RX12, TX12, 58)) rfl rfl (As := [.ref (r (157)), .int (nI (352 * q1 + 288)), .long (M_5.2 168 q1), .ref (r (119)), .int 0, .int 0, .ref (r (119)), .int 0, .int (nI (q2)), .ref (r (120)), .int 0]) (rest := []) (c_X12_opens l D b0 r M_5 157 (352 * q1 + 288) (M_5.2 168 q1) 119 0 0 119 0 q2 120 0 (by decide) rfl (by decide) (by omega) (by omega) (by decide) rfl (by decide) (by omega) (by omega) (by decide) rfl (by decide) (by omega) (by omega) (by decide) rfl (by decide) (by omega) (by omega)) rfl rfl (Nat.le_of_ble_eq_true rfl) ⟨Nat.le_of_ble_eq_true rfl, Nat.le_of_ble_eq_true rfl⟩ ⟨Nat.zero_le _, Nat.zero_le _⟩ dX12_receive_111 (fun v_21 M_20 H locs e9 w => ?_)
          obtain ⟨ev_21, eM_20⟩ : v_21 = (f_X12_opens 157 (352 * q1 + 288) (M_5.2 168 q1) 119 0 0 119 0 q2 120 0 M_5).1 ∧ M_20 = (f_X12_opens 157 (352 * q1 + 288) (M_5.2 168 q1) 119 0 0 119 0 q2 120 0 M_5).2 := ⟨congrArg Prod.fst e9, congrArg Prod.snd e9⟩
          clear e9
          refine lv_if_ne (tgt := 129) C.1 C.2.1 dX12_receive_114 (by decide) (fun h_22 => ?_) (fun h_22 => ?_)
          · have h16 : 16 ≤ q2 := r_X12_opens (fun q => h_22 (ev_21.trans q))
            refine lv_aload_n C.1 C.2.1 dX12_receive_129 rfl (lv_at hl 1 rfl) ?_
            refine lv_iload_n C.1 C.2.1 dX12_receive_130 rfl (lv_at hl 2 rfl) ?_
            refine lv_aload_n C.1 C.2.1 dX12_receive_131 rfl (lv_at hl 1 rfl) ?_
            refine m_get C w (k := 117) (j := 45) (v := .ref (r (160))) flX12_211 (by decide) rfl rfl dX12_receive_132 ?_
            refine lv_iload_n C.1 C.2.1 dX12_receive_135 rfl (lv_at hl 2 rfl) ?_
            refine m_zald C w (k := 160) (i := q1) (n := 4) (wr := true) (by decide) rfl (by omega) (by decide) dX12_receive_136 ?_
            refine lv_if_ne (tgt := 144) C.1 C.2.1 dX12_receive_137 (by decide) (fun h_23 => ?_) (fun h_23 => ?_)
            · refine lv_iconst (v := 0) C.1 C.2.1 dX12_receive_144 (by decide) ?_
              refine m_cvv C w hl cvX12_448 (k := 117) (by decide) rfl (q := (RX12, TX12, 58)) rfl rfl (As := [.int (nI (q1)), .int 0]) (rest := []) (c_X12_counts l D b0 r M_20 q1 (0 : Int32) (by omega)) rfl rfl (Nat.le_of_ble_eq_true rfl) ⟨Nat.le_of_ble_eq_true rfl, Nat.le_of_ble_eq_true rfl⟩ ⟨Nat.zero_le _, Nat.zero_le _⟩ dX12_receive_145 (fun M_24 H locs eM_24 w => ?_)
              refine lv_aload_n C.1 C.2.1 dX12_receive_148 rfl (lv_at hl 1 rfl) ?_
              refine lv_aload_n C.1 C.2.1 dX12_receive_149 rfl (lv_at hl 1 rfl) ?_
              refine m_get C w (k := 117) (j := 2) (v := .ref (r (120))) flX12_16 (by decide) rfl rfl dX12_receive_150 ?_
              refine lv_iload_n C.1 C.2.1 dX12_receive_153 rfl (lv_at hl 3 rfl) ?_
              refine lv_bipush (v := 16) C.1 C.2.1 dX12_receive_154 (by decide) ?_
              refine lv_isub C.1 C.2.1 dX12_receive_156 ?_
              refine m_i (y := nI (q2 - 16)) (pk_sub (a := q2) (b := 16) (by omega)) ?_
              refine m_cvi C w hl cvX12_388 (k := 117) (by decide) rfl (q := (RX12, TX12, 58)) rfl rfl (As := [.ref (r (120)), .int (nI (q2 - 16))]) (rest := []) (c_X12_tells l D b0 r M_24 120 (q2 - 16) (by decide) rfl (by decide) (by omega) (by omega) (by omega)) rfl rfl (Nat.le_of_ble_eq_true rfl) ⟨Nat.le_of_ble_eq_true rfl, Nat.le_of_ble_eq_true rfl⟩ ⟨Nat.zero_le _, Nat.zero_le _⟩ dX12_receive_157 (fun v_26 M_25 H locs e9 w => ?_)
              obtain ⟨ev_26, eM_25⟩ : v_26 = (f_X12_tells 120 (q2 - 16) M_24).1 ∧ M_25 = (f_X12_tells 120 (q2 - 16) M_24).2 := ⟨congrArg Prod.fst e9, congrArg Prod.snd e9⟩
              clear e9
              exact m_iret C w (by subst eq1 eq2 eM_5 ev_21 eM_20 eM_24 ev_26 eM_25; exact Eq.symm (((if_pos hS).trans ((if_pos h_6).trans ((if_pos h_7).trans ((if_neg h_8).trans ((if_pos h_22).trans ((if_pos h_23).trans rfl)))))))) dX12_receive_160
            · refine lv_iconst (v := 1) C.1 C.2.1 dX12_receive_140 (by decide) ?_
              refine lv_goto (tgt := 145) C.1 C.2.1 dX12_receive_141 (by decide) ?_
              refine m_cvv C w hl cvX12_448 (k := 117) (by decide) rfl (q := (RX12, TX12, 58)) rfl rfl (As := [.int (nI (q1)), .int 1]) (rest := []) (c_X12_counts l D b0 r M_20 q1 (1 : Int32) (by omega)) rfl rfl (Nat.le_of_ble_eq_true rfl) ⟨Nat.le_of_ble_eq_true rfl, Nat.le_of_ble_eq_true rfl⟩ ⟨Nat.zero_le _, Nat.zero_le _⟩ dX12_receive_145 (fun M_27 H locs eM_27 w => ?_)
              refine lv_aload_n C.1 C.2.1 dX12_receive_148 rfl (lv_at hl 1 rfl) ?_
              refine lv_aload_n C.1 C.2.1 dX12_receive_149 rfl (lv_at hl 1 rfl) ?_
              refine m_get C w (k := 117) (j := 2) (v := .ref (r (120))) flX12_16 (by decide) rfl rfl dX12_receive_150 ?_
              refine lv_iload_n C.1 C.2.1 dX12_receive_153 rfl (lv_at hl 3 rfl) ?_
              refine lv_bipush (v := 16) C.1 C.2.1 dX12_receive_154 (by decide) ?_
              refine lv_isub C.1 C.2.1 dX12_receive_156 ?_
              refine m_i (y := nI (q2 - 16)) (pk_sub (a := q2) (b := 16) (by omega)) ?_
              refine m_cvi C w hl cvX12_388 (k := 117) (by decide) rfl (q := (RX12, TX12, 58)) rfl rfl (As := [.ref (r (120)), .int (nI (q2 - 16))]) (rest := []) (c_X12_tells l D b0 r M_27 120 (q2 - 16) (by decide) rfl (by decide) (by omega) (by omega) (by omega)) rfl rfl (Nat.le_of_ble_eq_true rfl) ⟨Nat.le_of_ble_eq_true rfl, Nat.le_of_ble_eq_true rfl⟩ ⟨Nat.zero_le _, Nat.zero_le _⟩ dX12_receive_157 (fun v_29 M_28 H locs e9 w => ?_)
              obtain ⟨ev_29, eM_28⟩ : v_29 = (f_X12_tells 120 (q2 - 16) M_27).1 ∧ M_28 = (f_X12_tells 120 (q2 - 16) M_27).2 := ⟨congrArg Prod.fst e9, congrArg Prod.snd e9⟩
              clear e9
              exact m_iret C w (by subst eq1 eq2 eM_5 ev_21 eM_20 eM_27 ev_29 eM_28; exact Eq.symm (((if_pos hS).trans ((if_pos h_6).trans ((if_pos h_7).trans ((if_neg h_8).trans ((if_pos h_22).trans ((if_neg (fun q => q h_23)).trans rfl)))))))) dX12_receive_160
          · refine lv_aload_n C.1 C.2.1 dX12_receive_117 rfl (lv_at hl 1 rfl) ?_
            refine m_get C w (k := 117) (j := 50) (v := .ref (r (165))) flX12_226 (by decide) rfl rfl dX12_receive_118 ?_
            refine lv_iload_n C.1 C.2.1 dX12_receive_121 rfl (lv_at hl 2 rfl) ?_
            refine lv_dup2_11 C.1 C.2.1 dX12_receive_122 rfl rfl ?_
            refine m_iald C w (k := 165) (i := q1) (n := 4) (wr := true) (by decide) rfl (by omega) (by decide) dX12_receive_123 ?_
            refine lv_iconst (v := 1) C.1 C.2.1 dX12_receive_124 (by decide) ?_
            refine lv_iadd C.1 C.2.1 dX12_receive_125 ?_
            refine m_iast C w (k := 165) (i := q1) (n := 4) (x := ((M_20.1 165 q1) + (1 : Int32))) (by decide) rfl (by omega) (by decide) dX12_receive_126 (fun H locs w => ?_)
            obtain ⟨M_30, eM_30⟩ : ∃ zz, zz = mm_w M_20 165 q1 ((M_20.1 165 q1) + (1 : Int32)) := ⟨_, rfl⟩
            rw [← eM_30] at w
            refine lv_iconst (v := (-1)) C.1 C.2.1 dX12_receive_127 (by decide) ?_
            exact m_iret C w (by subst eq1 eq2 eM_5 ev_21 eM_20 eM_30; exact Eq.symm (((if_pos hS).trans ((if_pos h_6).trans ((if_pos h_7).trans ((if_neg h_8).trans ((if_neg (fun q => q h_22)).trans rfl))))))) dX12_receive_128
      · refine lv_sipush (v := 320) C.1 C.2.1 dX12_receive_53 (by decide) ?_
        refine lv_goto (tgt := 62) C.1 C.2.1 dX12_receive_56 (by decide) ?_
        refine lv_iadd C.1 C.2.1 dX12_receive_62 ?_
        refine m_i (y := nI (352 * q1 + 320)) (nI_add (352 * q1) 320) ?_
        refine lv_istore_n (lv' := [(3, .int (nI (352 * q1 + 320))), (0, .ref (r (117))), (1, .int (nI (q1))), (2, .int (nI (q2)))]) C.1 C.2.1 dX12_receive_63 rfl hl (by decide) rfl (fun ls hl => ?_)
        refine lv_aload_n C.1 C.2.1 dX12_receive_64 rfl (lv_at hl 1 rfl) ?_
        refine lv_aload_n C.1 C.2.1 dX12_receive_65 rfl (lv_at hl 1 rfl) ?_
        refine m_get C w (k := 117) (j := 42) (v := .ref (r (157))) flX12_201 (by decide) rfl rfl dX12_receive_66 ?_
        refine lv_iload_n C.1 C.2.1 dX12_receive_69 rfl (lv_at hl 0 rfl) ?_
        refine lv_aload_n C.1 C.2.1 dX12_receive_70 rfl (lv_at hl 1 rfl) ?_
        refine m_get C w (k := 117) (j := 45) (v := .ref (r (160))) flX12_211 (by decide) rfl rfl dX12_receive_71 ?_
        refine lv_iload_n C.1 C.2.1 dX12_receive_74 rfl (lv_at hl 2 rfl) ?_
        refine m_zald C w (k := 160) (i := q1) (n := 4) (wr := true) (by decide) rfl (by omega) (by decide) dX12_receive_75 ?_
        refine lv_if_eq (tgt := 88) C.1 C.2.1 dX12_receive_76 (by decide) (fun h_31 => ?_) (fun h_31 => ?_)
        · refine lv_aload_n C.1 C.2.1 dX12_receive_88 rfl (lv_at hl 1 rfl) ?_
          refine m_get C w (k := 117) (j := 52) (v := .ref (r (167))) flX12_232 (by decide) rfl rfl dX12_receive_89 ?_
          refine lv_iload_n C.1 C.2.1 dX12_receive_92 rfl (lv_at hl 2 rfl) ?_
          refine m_lald C w (k := 167) (i := q1) (n := 4) (wr := true) (by decide) rfl (by omega) (by decide) dX12_receive_93 ?_
          refine lv_aload_n C.1 C.2.1 dX12_receive_94 rfl (lv_at hl 1 rfl) ?_
          refine m_get C w (k := 117) (j := 1) (v := .ref (r (119))) flX12_13 (by decide) rfl rfl dX12_receive_95 ?_
          refine lv_iconst (v := 0) C.1 C.2.1 dX12_receive_98 (by decide) ?_
          refine lv_iconst (v := 0) C.1 C.2.1 dX12_receive_99 (by decide) ?_
          refine lv_aload_n C.1 C.2.1 dX12_receive_100 rfl (lv_at hl 1 rfl) ?_
          refine m_get C w (k := 117) (j := 1) (v := .ref (r (119))) flX12_13 (by decide) rfl rfl dX12_receive_101 ?_
          refine lv_iconst (v := 0) C.1 C.2.1 dX12_receive_104 (by decide) ?_
          refine lv_iload_n C.1 C.2.1 dX12_receive_105 rfl (lv_at hl 3 rfl) ?_
          refine lv_aload_n C.1 C.2.1 dX12_receive_106 rfl (lv_at hl 1 rfl) ?_
          refine m_get C w (k := 117) (j := 2) (v := .ref (r (120))) flX12_16 (by decide) rfl rfl dX12_receive_107 ?_
          refine lv_iconst (v := 0) C.1 C.2.1 dX12_receive_110 (by decide) ?_
          refine m_cvi C w hl cvX12_398 (k := 117) (by decide) rfl (q := (RX12, TX12, 58)) rfl rfl (As := [.ref (r (157)), .int (nI (352 * q1 + 320)), .long (M_5.2 167 q1), .ref (r (119)), .int 0, .int 0, .ref (r (119)), .int 0, .int (nI (q2)), .ref (r (120)), .int 0]) (rest := []) (c_X12_opens l D b0 r M_5 157 (352 * q1 + 320) (M_5.2 167 q1) 119 0 0 119 0 q2 120 0 (by decide) rfl (by decide) (by omega) (by omega) (by decide) rfl (by decide) (by omega) (by omega) (by decide) rfl (by decide) (by omega) (by omega) (by decide) rfl (by decide) (by omega) (by omega)) rfl rfl (Nat.le_of_ble_eq_true rfl) ⟨Nat.le_of_ble_eq_true rfl, Nat.le_of_ble_eq_true rfl⟩ ⟨Nat.zero_le _, Nat.zero_le _⟩ dX12_receive_111 (fun v_33 M_32 H locs e9 w => ?_)
          obtain ⟨ev_33, eM_32⟩ : v_33 = (f_X12_opens 157 (352 * q1 + 320) (M_5.2 167 q1) 119 0 0 119 0 q2 120 0 M_5).1 ∧ M_32 = (f_X12_opens 157 (352 * q1 + 320) (M_5.2 167 q1) 119 0 0 119 0 q2 120 0 M_5).2 := ⟨congrArg Prod.fst e9, congrArg Prod.snd e9⟩
          clear e9
          refine lv_if_ne (tgt := 129) C.1 C.2.1 dX12_receive_114 (by decide) (fun h_34 => ?_) (fun h_34 => ?_)
          · have h16 : 16 ≤ q2 := r_X12_opens (fun q => h_34 (ev_33.trans q))
            refine lv_aload_n C.1 C.2.1 dX12_receive_129 rfl (lv_at hl 1 rfl) ?_
            refine lv_iload_n C.1 C.2.1 dX12_receive_130 rfl (lv_at hl 2 rfl) ?_
            refine lv_aload_n C.1 C.2.1 dX12_receive_131 rfl (lv_at hl 1 rfl) ?_
            refine m_get C w (k := 117) (j := 45) (v := .ref (r (160))) flX12_211 (by decide) rfl rfl dX12_receive_132 ?_
            refine lv_iload_n C.1 C.2.1 dX12_receive_135 rfl (lv_at hl 2 rfl) ?_
            refine m_zald C w (k := 160) (i := q1) (n := 4) (wr := true) (by decide) rfl (by omega) (by decide) dX12_receive_136 ?_
            refine lv_if_ne (tgt := 144) C.1 C.2.1 dX12_receive_137 (by decide) (fun h_35 => ?_) (fun h_35 => ?_)
            · refine lv_iconst (v := 0) C.1 C.2.1 dX12_receive_144 (by decide) ?_
              refine m_cvv C w hl cvX12_448 (k := 117) (by decide) rfl (q := (RX12, TX12, 58)) rfl rfl (As := [.int (nI (q1)), .int 0]) (rest := []) (c_X12_counts l D b0 r M_32 q1 (0 : Int32) (by omega)) rfl rfl (Nat.le_of_ble_eq_true rfl) ⟨Nat.le_of_ble_eq_true rfl, Nat.le_of_ble_eq_true rfl⟩ ⟨Nat.zero_le _, Nat.zero_le _⟩ dX12_receive_145 (fun M_36 H locs eM_36 w => ?_)
              refine lv_aload_n C.1 C.2.1 dX12_receive_148 rfl (lv_at hl 1 rfl) ?_
              refine lv_aload_n C.1 C.2.1 dX12_receive_149 rfl (lv_at hl 1 rfl) ?_
              refine m_get C w (k := 117) (j := 2) (v := .ref (r (120))) flX12_16 (by decide) rfl rfl dX12_receive_150 ?_
              refine lv_iload_n C.1 C.2.1 dX12_receive_153 rfl (lv_at hl 3 rfl) ?_
              refine lv_bipush (v := 16) C.1 C.2.1 dX12_receive_154 (by decide) ?_
              refine lv_isub C.1 C.2.1 dX12_receive_156 ?_
              refine m_i (y := nI (q2 - 16)) (pk_sub (a := q2) (b := 16) (by omega)) ?_
              refine m_cvi C w hl cvX12_388 (k := 117) (by decide) rfl (q := (RX12, TX12, 58)) rfl rfl (As := [.ref (r (120)), .int (nI (q2 - 16))]) (rest := []) (c_X12_tells l D b0 r M_36 120 (q2 - 16) (by decide) rfl (by decide) (by omega) (by omega) (by omega)) rfl rfl (Nat.le_of_ble_eq_true rfl) ⟨Nat.le_of_ble_eq_true rfl, Nat.le_of_ble_eq_true rfl⟩ ⟨Nat.zero_le _, Nat.zero_le _⟩ dX12_receive_157 (fun v_38 M_37 H locs e9 w => ?_)
              obtain ⟨ev_38, eM_37⟩ : v_38 = (f_X12_tells 120 (q2 - 16) M_36).1 ∧ M_37 = (f_X12_tells 120 (q2 - 16) M_36).2 := ⟨congrArg Prod.fst e9, congrArg Prod.snd e9⟩
              clear e9
              exact m_iret C w (by subst eq1 eq2 eM_5 ev_33 eM_32 eM_36 ev_38 eM_37; exact Eq.symm (((if_pos hS).trans ((if_pos h_6).trans ((if_neg h_7).trans ((if_pos h_31).trans ((if_pos h_34).trans ((if_pos h_35).trans rfl)))))))) dX12_receive_160
            · refine lv_iconst (v := 1) C.1 C.2.1 dX12_receive_140 (by decide) ?_
              refine lv_goto (tgt := 145) C.1 C.2.1 dX12_receive_141 (by decide) ?_
              refine m_cvv C w hl cvX12_448 (k := 117) (by decide) rfl (q := (RX12, TX12, 58)) rfl rfl (As := [.int (nI (q1)), .int 1]) (rest := []) (c_X12_counts l D b0 r M_32 q1 (1 : Int32) (by omega)) rfl rfl (Nat.le_of_ble_eq_true rfl) ⟨Nat.le_of_ble_eq_true rfl, Nat.le_of_ble_eq_true rfl⟩ ⟨Nat.zero_le _, Nat.zero_le _⟩ dX12_receive_145 (fun M_39 H locs eM_39 w => ?_)
              refine lv_aload_n C.1 C.2.1 dX12_receive_148 rfl (lv_at hl 1 rfl) ?_
              refine lv_aload_n C.1 C.2.1 dX12_receive_149 rfl (lv_at hl 1 rfl) ?_
              refine m_get C w (k := 117) (j := 2) (v := .ref (r (120))) flX12_16 (by decide) rfl rfl dX12_receive_150 ?_
              refine lv_iload_n C.1 C.2.1 dX12_receive_153 rfl (lv_at hl 3 rfl) ?_
              refine lv_bipush (v := 16) C.1 C.2.1 dX12_receive_154 (by decide) ?_
              refine lv_isub C.1 C.2.1 dX12_receive_156 ?_
              refine m_i (y := nI (q2 - 16)) (pk_sub (a := q2) (b := 16) (by omega)) ?_
              refine m_cvi C w hl cvX12_388 (k := 117) (by decide) rfl (q := (RX12, TX12, 58)) rfl rfl (As := [.ref (r (120)), .int (nI (q2 - 16))]) (rest := []) (c_X12_tells l D b0 r M_39 120 (q2 - 16) (by decide) rfl (by decide) (by omega) (by omega) (by omega)) rfl rfl (Nat.le_of_ble_eq_true rfl) ⟨Nat.le_of_ble_eq_true rfl, Nat.le_of_ble_eq_true rfl⟩ ⟨Nat.zero_le _, Nat.zero_le _⟩ dX12_receive_157 (fun v_41 M_40 H locs e9 w => ?_)
              obtain ⟨ev_41, eM_40⟩ : v_41 = (f_X12_tells 120 (q2 - 16) M_39).1 ∧ M_40 = (f_X12_tells 120 (q2 - 16) M_39).2 := ⟨congrArg Prod.fst e9, congrArg Prod.snd e9⟩
              clear e9
              exact m_iret C w (by subst eq1 eq2 eM_5 ev_33 eM_32 eM_39 ev_41 eM_40; exact Eq.symm (((if_pos hS).trans ((if_pos h_6).trans ((if_neg h_7).trans ((if_pos h_31).trans ((if_pos h_34).trans ((if_neg (fun q => q h_35)).trans rfl)))))))) dX12_receive_160
          · refine lv_aload_n C.1 C.2.1 dX12_receive_117 rfl (lv_at hl 1 rfl) ?_
            refine m_get C w (k := 117) (j := 50) (v := .ref (r (165))) flX12_226 (by decide) rfl rfl dX12_receive_118 ?_
            refine lv_iload_n C.1 C.2.1 dX12_receive_121 rfl (lv_at hl 2 rfl) ?_
            refine lv_dup2_11 C.1 C.2.1 dX12_receive_122 rfl rfl ?_
            refine m_iald C w (k := 165) (i := q1) (n := 4) (wr := true) (by decide) rfl (by omega) (by decide) dX12_receive_123 ?_
            refine lv_iconst (v := 1) C.1 C.2.1 dX12_receive_124 (by decide) ?_
            refine lv_iadd C.1 C.2.1 dX12_receive_125 ?_
            refine m_iast C w (k := 165) (i := q1) (n := 4) (x := ((M_32.1 165 q1) + (1 : Int32))) (by decide) rfl (by omega) (by decide) dX12_receive_126 (fun H locs w => ?_)
            obtain ⟨M_42, eM_42⟩ : ∃ zz, zz = mm_w M_32 165 q1 ((M_32.1 165 q1) + (1 : Int32)) := ⟨_, rfl⟩
            rw [← eM_42] at w
            refine lv_iconst (v := (-1)) C.1 C.2.1 dX12_receive_127 (by decide) ?_
            exact m_iret C w (by subst eq1 eq2 eM_5 ev_33 eM_32 eM_42; exact Eq.symm (((if_pos hS).trans ((if_pos h_6).trans ((if_neg h_7).trans ((if_pos h_31).trans ((if_neg (fun q => q h_34)).trans rfl))))))) dX12_receive_128
        · refine lv_aload_n C.1 C.2.1 dX12_receive_79 rfl (lv_at hl 1 rfl) ?_
          refine m_get C w (k := 117) (j := 53) (v := .ref (r (168))) flX12_235 (by decide) rfl rfl dX12_receive_80 ?_
          refine lv_iload_n C.1 C.2.1 dX12_receive_83 rfl (lv_at hl 2 rfl) ?_
          refine m_lald C w (k := 168) (i := q1) (n := 4) (wr := true) (by decide) rfl (by omega) (by decide) dX12_receive_84 ?_
          refine lv_goto (tgt := 94) C.1 C.2.1 dX12_receive_85 (by decide) ?_
          refine lv_aload_n C.1 C.2.1 dX12_receive_94 rfl (lv_at hl 1 rfl) ?_
          refine m_get C w (k := 117) (j := 1) (v := .ref (r (119))) flX12_13 (by decide) rfl rfl dX12_receive_95 ?_
          refine lv_iconst (v := 0) C.1 C.2.1 dX12_receive_98 (by decide) ?_
          refine lv_iconst (v := 0) C.1 C.2.1 dX12_receive_99 (by decide) ?_
          refine lv_aload_n C.1 C.2.1 dX12_receive_100 rfl (lv_at hl 1 rfl) ?_
          refine m_get C w (k := 117) (j := 1) (v := .ref (r (119))) flX12_13 (by decide) rfl rfl dX12_receive_101 ?_
          refine lv_iconst (v := 0) C.1 C.2.1 dX12_receive_104 (by decide) ?_
          refine lv_iload_n C.1 C.2.1 dX12_receive_105 rfl (lv_at hl 3 rfl) ?_
          refine lv_aload_n C.1 C.2.1 dX12_receive_106 rfl (lv_at hl 1 rfl) ?_
          refine m_get C w (k := 117) (j := 2) (v := .ref (r (120))) flX12_16 (by decide) rfl rfl dX12_receive_107 ?_
          refine lv_iconst (v := 0) C.1 C.2.1 dX12_receive_110 (by decide) ?_
          refine m_cvi C w hl cvX12_398 (k := 117) (by decide) rfl (q := (RX12, TX12, 58)) rfl rfl (As := [.ref (r (157)), .int (nI (352 * q1 + 320)), .long (M_5.2 168 q1), .ref (r (119)), .int 0, .int 0, .ref (r (119)), .int 0, .int (nI (q2)), .ref (r (120)), .int 0]) (rest := []) (c_X12_opens l D b0 r M_5 157 (352 * q1 + 320) (M_5.2 168 q1) 119 0 0 119 0 q2 120 0 (by decide) rfl (by decide) (by omega) (by omega) (by decide) rfl (by decide) (by omega) (by omega) (by decide) rfl (by decide) (by omega) (by omega) (by decide) rfl (by decide) (by omega) (by omega)) rfl rfl (Nat.le_of_ble_eq_true rfl) ⟨Nat.le_of_ble_eq_true rfl, Nat.le_of_ble_eq_true rfl⟩ ⟨Nat.zero_le _, Nat.zero_le _⟩ dX12_receive_111 (fun v_44 M_43 H locs e9 w => ?_)
          obtain ⟨ev_44, eM_43⟩ : v_44 = (f_X12_opens 157 (352 * q1 + 320) (M_5.2 168 q1) 119 0 0 119 0 q2 120 0 M_5).1 ∧ M_43 = (f_X12_opens 157 (352 * q1 + 320) (M_5.2 168 q1) 119 0 0 119 0 q2 120 0 M_5).2 := ⟨congrArg Prod.fst e9, congrArg Prod.snd e9⟩
          clear e9
          refine lv_if_ne (tgt := 129) C.1 C.2.1 dX12_receive_114 (by decide) (fun h_45 => ?_) (fun h_45 => ?_)
          · have h16 : 16 ≤ q2 := r_X12_opens (fun q => h_45 (ev_44.trans q))
            refine lv_aload_n C.1 C.2.1 dX12_receive_129 rfl (lv_at hl 1 rfl) ?_
            refine lv_iload_n C.1 C.2.1 dX12_receive_130 rfl (lv_at hl 2 rfl) ?_
            refine lv_aload_n C.1 C.2.1 dX12_receive_131 rfl (lv_at hl 1 rfl) ?_
            refine m_get C w (k := 117) (j := 45) (v := .ref (r (160))) flX12_211 (by decide) rfl rfl dX12_receive_132 ?_
            refine lv_iload_n C.1 C.2.1 dX12_receive_135 rfl (lv_at hl 2 rfl) ?_
            refine m_zald C w (k := 160) (i := q1) (n := 4) (wr := true) (by decide) rfl (by omega) (by decide) dX12_receive_136 ?_
            refine lv_if_ne (tgt := 144) C.1 C.2.1 dX12_receive_137 (by decide) (fun h_46 => ?_) (fun h_46 => ?_)
            · refine lv_iconst (v := 0) C.1 C.2.1 dX12_receive_144 (by decide) ?_
              refine m_cvv C w hl cvX12_448 (k := 117) (by decide) rfl (q := (RX12, TX12, 58)) rfl rfl (As := [.int (nI (q1)), .int 0]) (rest := []) (c_X12_counts l D b0 r M_43 q1 (0 : Int32) (by omega)) rfl rfl (Nat.le_of_ble_eq_true rfl) ⟨Nat.le_of_ble_eq_true rfl, Nat.le_of_ble_eq_true rfl⟩ ⟨Nat.zero_le _, Nat.zero_le _⟩ dX12_receive_145 (fun M_47 H locs eM_47 w => ?_)
              refine lv_aload_n C.1 C.2.1 dX12_receive_148 rfl (lv_at hl 1 rfl) ?_
              refine lv_aload_n C.1 C.2.1 dX12_receive_149 rfl (lv_at hl 1 rfl) ?_
              refine m_get C w (k := 117) (j := 2) (v := .ref (r (120))) flX12_16 (by decide) rfl rfl dX12_receive_150 ?_
              refine lv_iload_n C.1 C.2.1 dX12_receive_153 rfl (lv_at hl 3 rfl) ?_
              refine lv_bipush (v := 16) C.1 C.2.1 dX12_receive_154 (by decide) ?_
              refine lv_isub C.1 C.2.1 dX12_receive_156 ?_
              refine m_i (y := nI (q2 - 16)) (pk_sub (a := q2) (b := 16) (by omega)) ?_
              refine m_cvi C w hl cvX12_388 (k := 117) (by decide) rfl (q := (RX12, TX12, 58)) rfl rfl (As := [.ref (r (120)), .int (nI (q2 - 16))]) (rest := []) (c_X12_tells l D b0 r M_47 120 (q2 - 16) (by decide) rfl (by decide) (by omega) (by omega) (by omega)) rfl rfl (Nat.le_of_ble_eq_true rfl) ⟨Nat.le_of_ble_eq_true rfl, Nat.le_of_ble_eq_true rfl⟩ ⟨Nat.zero_le _, Nat.zero_le _⟩ dX12_receive_157 (fun v_49 M_48 H locs e9 w => ?_)
              obtain ⟨ev_49, eM_48⟩ : v_49 = (f_X12_tells 120 (q2 - 16) M_47).1 ∧ M_48 = (f_X12_tells 120 (q2 - 16) M_47).2 := ⟨congrArg Prod.fst e9, congrArg Prod.snd e9⟩
              clear e9
              exact m_iret C w (by subst eq1 eq2 eM_5 ev_44 eM_43 eM_47 ev_49 eM_48; exact Eq.symm (((if_pos hS).trans ((if_pos h_6).trans ((if_neg h_7).trans ((if_neg h_31).trans ((if_pos h_45).trans ((if_pos h_46).trans rfl)))))))) dX12_receive_160
            · refine lv_iconst (v := 1) C.1 C.2.1 dX12_receive_140 (by decide) ?_
              refine lv_goto (tgt := 145) C.1 C.2.1 dX12_receive_141 (by decide) ?_
              refine m_cvv C w hl cvX12_448 (k := 117) (by decide) rfl (q := (RX12, TX12, 58)) rfl rfl (As := [.int (nI (q1)), .int 1]) (rest := []) (c_X12_counts l D b0 r M_43 q1 (1 : Int32) (by omega)) rfl rfl (Nat.le_of_ble_eq_true rfl) ⟨Nat.le_of_ble_eq_true rfl, Nat.le_of_ble_eq_true rfl⟩ ⟨Nat.zero_le _, Nat.zero_le _⟩ dX12_receive_145 (fun M_50 H locs eM_50 w => ?_)
              refine lv_aload_n C.1 C.2.1 dX12_receive_148 rfl (lv_at hl 1 rfl) ?_
              refine lv_aload_n C.1 C.2.1 dX12_receive_149 rfl (lv_at hl 1 rfl) ?_
              refine m_get C w (k := 117) (j := 2) (v := .ref (r (120))) flX12_16 (by decide) rfl rfl dX12_receive_150 ?_
              refine lv_iload_n C.1 C.2.1 dX12_receive_153 rfl (lv_at hl 3 rfl) ?_
              refine lv_bipush (v := 16) C.1 C.2.1 dX12_receive_154 (by decide) ?_
              refine lv_isub C.1 C.2.1 dX12_receive_156 ?_
              refine m_i (y := nI (q2 - 16)) (pk_sub (a := q2) (b := 16) (by omega)) ?_
              refine m_cvi C w hl cvX12_388 (k := 117) (by decide) rfl (q := (RX12, TX12, 58)) rfl rfl (As := [.ref (r (120)), .int (nI (q2 - 16))]) (rest := []) (c_X12_tells l D b0 r M_50 120 (q2 - 16) (by decide) rfl (by decide) (by omega) (by omega) (by omega)) rfl rfl (Nat.le_of_ble_eq_true rfl) ⟨Nat.le_of_ble_eq_true rfl, Nat.le_of_ble_eq_true rfl⟩ ⟨Nat.zero_le _, Nat.zero_le _⟩ dX12_receive_157 (fun v_52 M_51 H locs e9 w => ?_)
              obtain ⟨ev_52, eM_51⟩ : v_52 = (f_X12_tells 120 (q2 - 16) M_50).1 ∧ M_51 = (f_X12_tells 120 (q2 - 16) M_50).2 := ⟨congrArg Prod.fst e9, congrArg Prod.snd e9⟩
              clear e9
              exact m_iret C w (by subst eq1 eq2 eM_5 ev_44 eM_43 eM_50 ev_52 eM_51; exact Eq.symm (((if_pos hS).trans ((if_pos h_6).trans ((if_neg h_7).trans ((if_neg h_31).trans ((if_pos h_45).trans ((if_neg (fun q => q h_46)).trans rfl)))))))) dX12_receive_160
          · refine lv_aload_n C.1 C.2.1 dX12_receive_117 rfl (lv_at hl 1 rfl) ?_
            refine m_get C w (k := 117) (j := 50) (v := .ref (r (165))) flX12_226 (by decide) rfl rfl dX12_receive_118 ?_
            refine lv_iload_n C.1 C.2.1 dX12_receive_121 rfl (lv_at hl 2 rfl) ?_
            refine lv_dup2_11 C.1 C.2.1 dX12_receive_122 rfl rfl ?_
            refine m_iald C w (k := 165) (i := q1) (n := 4) (wr := true) (by decide) rfl (by omega) (by decide) dX12_receive_123 ?_
            refine lv_iconst (v := 1) C.1 C.2.1 dX12_receive_124 (by decide) ?_
            refine lv_iadd C.1 C.2.1 dX12_receive_125 ?_
            refine m_iast C w (k := 165) (i := q1) (n := 4) (x := ((M_43.1 165 q1) + (1 : Int32))) (by decide) rfl (by omega) (by decide) dX12_receive_126 (fun H locs w => ?_)
            obtain ⟨M_53, eM_53⟩ : ∃ zz, zz = mm_w M_43 165 q1 ((M_43.1 165 q1) + (1 : Int32)) := ⟨_, rfl⟩
            rw [← eM_53] at w
            refine lv_iconst (v := (-1)) C.1 C.2.1 dX12_receive_127 (by decide) ?_
            exact m_iret C w (by subst eq1 eq2 eM_5 ev_44 eM_43 eM_53; exact Eq.symm (((if_pos hS).trans ((if_pos h_6).trans ((if_neg h_7).trans ((if_neg h_31).trans ((if_neg (fun q => q h_45)).trans rfl))))))) dX12_receive_128
    · refine lv_iconst (v := (-1)) C.1 C.2.1 dX12_receive_37 (by decide) ?_
      exact m_iret C w (by subst eq1 eq2 eM_5; exact Eq.symm (((if_pos hS).trans ((if_neg h_6).trans rfl)))) dX12_receive_38
  · refine lv_aload_n C.1 C.2.1 dX12_receive_0 rfl (lv_at hl 0 rfl) ?_
    refine lv_iload_n C.1 C.2.1 dX12_receive_1 rfl (lv_at hl 1 rfl) ?_
    refine m_cvi C w hl cvX12_421 (k := 117) (by decide) rfl (q := (RX12, TX12, 58)) rfl rfl (As := [.int (v1)]) (rest := []) (c_X12_isSession l D b0 r M (v1) ) rfl rfl (Nat.le_of_ble_eq_true rfl) ⟨Nat.le_of_ble_eq_true rfl, Nat.le_of_ble_eq_true rfl⟩ ⟨Nat.zero_le _, Nat.zero_le _⟩ dX12_receive_2 (fun v_54 M9 H locs e9 w => ?_)
    obtain ⟨ev_54, e9⟩ := e9
    rw [e9] at w
    subst ev_54
    refine lv_if_eq (tgt := 20) C.1 C.2.1 dX12_receive_5 (by decide) (fun h_55 => ?_) (fun h_55 => ?_)
    · refine lv_bipush (v := (-2)) C.1 C.2.1 dX12_receive_20 (by decide) ?_
      exact m_iret C w (by exact Eq.symm (((if_neg hS).trans ((if_pos h_55).trans rfl)))) dX12_receive_22
    · refine lv_iload_n C.1 C.2.1 dX12_receive_8 rfl (lv_at hl 2 rfl) ?_
      refine lv_iconst (v := 0) C.1 C.2.1 dX12_receive_9 (by decide) ?_
      refine lv_aload_n C.1 C.2.1 dX12_receive_10 rfl (lv_at hl 0 rfl) ?_
      refine m_get C w (k := 117) (j := 4) (v := .int (M.1 117 4)) flX12_364 (by decide) rfl rfl dX12_receive_11 ?_
      refine m_i (y := nI (ts)) h1 ?_
      refine m_csi C w hl csX12_373 (As := [.int (v2), .int 0, .int (nI (ts))]) (rest := []) (c_X12_in l D b0 r M (v2) (0 : Int32) (nI (ts)) ) rfl rfl (Nat.le_of_ble_eq_true rfl) ⟨Nat.le_of_ble_eq_true rfl, Nat.le_of_ble_eq_true rfl⟩ ⟨Nat.zero_le _, Nat.zero_le _⟩ dX12_receive_14 (fun v_56 M9 H locs e9 w => ?_)
      obtain ⟨ev_56, e9⟩ := e9
      rw [e9] at w
      subst ev_56
      refine lv_if_ne (tgt := 23) C.1 C.2.1 dX12_receive_17 (by decide) (fun h_57 => absurd h_57 (fun q => hS ⟨h_55, q⟩)) (fun _ => ?_)
      refine lv_bipush (v := (-2)) C.1 C.2.1 dX12_receive_20 (by decide) ?_
      exact m_iret C w (by exact Eq.symm (((if_neg hS).trans ((if_neg h_55).trans rfl)))) dX12_receive_22

def f_X12_rekey_B1 (v2 : Int32) (M : mm_M) (q1 : Nat) : Int32 × mm_M :=
  if ¬ (M.1 160 q1) = (v2) then (let M_5 := f_X12_streamed 157 (352 * q1 + 320) (1 : Int32) ((-1)) M
  let M_6 := f_X12_copy 149 0 157 (352 * q1 + 320) 32 M_5
  ((1 : Int32), M_6)) else (let M_7 := f_X12_streamed 157 (352 * q1 + 288) (1 : Int32) ((-1)) M
  let M_8 := f_X12_copy 149 0 157 (352 * q1 + 288) 32 M_7
  ((1 : Int32), M_8))
theorem w_f_X12_rekey_B1 (v2 : Int32) (M : mm_M) (q1 : Nat) : mm_fr2 [147, 149, 148, 157] M (f_X12_rekey_B1 v2 M q1) := by
  unfold f_X12_rekey_B1
  exact (mm_fr_ite2 (fun _ => ((w_f_X12_copy _ _ _ _ _ _).on (by simp) ((w_f_X12_streamed _ _ _ _ _).on (by simp) (mm_fr_refl _ _))).b) (fun _ => ((w_f_X12_copy _ _ _ _ _ _).on (by simp) ((w_f_X12_streamed _ _ _ _ _).on (by simp) (mm_fr_refl _ _))).b))
def f_X12_rekey_B2 (v2 : Int32) (M : mm_M) (q1 : Nat) : Int32 × mm_M :=
  if (3 : Int32) ≤ (M.1 164 q1) then (f_X12_rekey_B1 v2 M q1) else (((0 : Int32), M))
theorem w_f_X12_rekey_B2 (v2 : Int32) (M : mm_M) (q1 : Nat) : mm_fr2 [147, 149, 148, 157] M (f_X12_rekey_B2 v2 M q1) := by
  unfold f_X12_rekey_B2
  exact (mm_fr_ite2 (fun _ => ((w_f_X12_rekey_B1 _ _ _).on (by simp) (mm_fr_refl _ _))) (fun _ => (mm_fr_refl _ _).b))
def f_X12_rekey (v1 : Int32) (v2 : Int32) (M : mm_M) : Int32 × mm_M :=
  if ¬ f_X12_isSession v1 M = 0 then (let q1 := (v1).toNatClampNeg
  f_X12_rekey_B2 v2 M q1) else (((0 : Int32), M))
theorem w_f_X12_rekey (v1 : Int32) (v2 : Int32) (M : mm_M) : mm_fr2 [147, 149, 148, 157] M (f_X12_rekey v1 v2 M) := by
  unfold f_X12_rekey
  exact (mm_fr_ite2 (fun _ => ((w_f_X12_rekey_B2 _ _ _).on (by simp) (mm_fr_refl _ _))) (fun _ => (mm_fr_refl _ _).b))
set_option maxHeartbeats 4000000 in
set_option maxRecDepth 100000 in
theorem c_X12_rekey (l : Launch) (D : va_G) (b0 : Nat) (r : Nat → Nat) (M : mm_M) (v1 : Int32) (v2 : Int32)  : mm_Mi l yX12_rekey cX12_rekey 4 .boolean 3 72 D b0 r [.ref (r (117)), .int (v1), .int (v2)] M (fun v M' => (v, M') = f_X12_rekey v1 v2 M) := by
  refine mm_enter (cc := cX12_rekey) (nL := 4) (ret := (some .boolean)) (by decide) (Nat.le_of_ble_eq_true rfl) ?_
  intro p e s m args below meth c C w ls hl
  have hl : lv_has ls 4 [(0, .ref (r (117))), (1, .int (v1)), (2, .int (v2))] := hl
  by_cases hS : ¬ f_X12_isSession v1 M = 0
  · obtain ⟨q1, eq1⟩ : ∃ zz, zz = (v1).toNatClampNeg := ⟨_, rfl⟩
    obtain ⟨hvq1, hbq1⟩ : v1 = nI q1 ∧ q1 < 4 := by rw [eq1]; exact g_isSession2 hS
    rw [hvq1] at hl
    have hTq1 : ¬ f_X12_isSession (nI q1) M = 0 := by rw [← hvq1]; exact hS
    refine lv_aload_n C.1 C.2.1 dX12_rekey_0 rfl (lv_at hl 0 rfl) ?_
    refine lv_iload_n C.1 C.2.1 dX12_rekey_1 rfl (lv_at hl 1 rfl) ?_
    refine m_cvi C w hl cvX12_421 (k := 117) (by decide) rfl (q := (RX12, TX12, 58)) rfl rfl (As := [.int (nI (q1))]) (rest := []) (c_X12_isSession l D b0 r M (nI (q1)) ) rfl rfl (Nat.le_of_ble_eq_true rfl) ⟨Nat.le_of_ble_eq_true rfl, Nat.le_of_ble_eq_true rfl⟩ ⟨Nat.zero_le _, Nat.zero_le _⟩ dX12_rekey_2 (fun v_1 M9 H locs e9 w => ?_)
    obtain ⟨ev_1, e9⟩ := e9
    rw [e9] at w
    subst ev_1
    refine lv_if_eq (tgt := 18) C.1 C.2.1 dX12_rekey_5 (by decide) (fun h_2 => absurd h_2 hTq1) (fun _ => ?_)
    refine lv_aload_n C.1 C.2.1 dX12_rekey_8 rfl (lv_at hl 0 rfl) ?_
    refine m_get C w (k := 117) (j := 49) (v := .ref (r (164))) flX12_223 (by decide) rfl rfl dX12_rekey_9 ?_
    refine lv_iload_n C.1 C.2.1 dX12_rekey_12 rfl (lv_at hl 1 rfl) ?_
    refine m_iald C w (k := 164) (i := q1) (n := 4) (wr := true) (by decide) rfl (by omega) (by decide) dX12_rekey_13 ?_
    refine lv_iconst (v := 3) C.1 C.2.1 dX12_rekey_14 (by decide) ?_
    refine lv_icmp_ge (tgt := 20) C.1 C.2.1 dX12_rekey_15 (by decide) (fun h_3 => ?_) (fun h_3 => ?_)
    · refine lv_sipush (v := 352) C.1 C.2.1 dX12_rekey_20 (by decide) ?_
      refine lv_iload_n C.1 C.2.1 dX12_rekey_23 rfl (lv_at hl 1 rfl) ?_
      refine lv_imul C.1 C.2.1 dX12_rekey_24 ?_
      refine m_i (y := nI (352 * q1)) (pk_mul 352 q1) ?_
      refine lv_aload_n C.1 C.2.1 dX12_rekey_25 rfl (lv_at hl 0 rfl) ?_
      refine m_get C w (k := 117) (j := 45) (v := .ref (r (160))) flX12_211 (by decide) rfl rfl dX12_rekey_26 ?_
      refine lv_iload_n C.1 C.2.1 dX12_rekey_29 rfl (lv_at hl 1 rfl) ?_
      refine m_zald C w (k := 160) (i := q1) (n := 4) (wr := true) (by decide) rfl (by omega) (by decide) dX12_rekey_30 ?_
      refine lv_iload_n C.1 C.2.1 dX12_rekey_31 rfl (lv_at hl 2 rfl) ?_
      refine lv_icmp_ne (tgt := 41) C.1 C.2.1 dX12_rekey_32 (by decide) (fun h_4 => ?_) (fun h_4 => ?_)
      · refine lv_sipush (v := 320) C.1 C.2.1 dX12_rekey_41 (by decide) ?_
        refine lv_iadd C.1 C.2.1 dX12_rekey_44 ?_
        refine m_i (y := nI (352 * q1 + 320)) (nI_add (352 * q1) 320) ?_
        refine lv_istore_n (lv' := [(3, .int (nI (352 * q1 + 320))), (0, .ref (r (117))), (1, .int (nI (q1))), (2, .int (v2))]) C.1 C.2.1 dX12_rekey_45 rfl hl (by decide) rfl (fun ls hl => ?_)
        refine lv_aload_n C.1 C.2.1 dX12_rekey_46 rfl (lv_at hl 1 rfl) ?_
        refine lv_aload_n C.1 C.2.1 dX12_rekey_47 rfl (lv_at hl 1 rfl) ?_
        refine m_get C w (k := 117) (j := 42) (v := .ref (r (157))) flX12_201 (by decide) rfl rfl dX12_rekey_48 ?_
        refine lv_iload_n C.1 C.2.1 dX12_rekey_51 rfl (lv_at hl 0 rfl) ?_
        refine lv_iconst (v := 1) C.1 C.2.1 dX12_rekey_52 (by decide) ?_
        refine lv_ldc2 (v := (-1)) C.1 C.2.1 C.2.2.2.1 (C.2.2.2.2.1 _ klX12_452) dX12_rekey_53 ?_
        refine m_cvv C w hl cvX12_338 (k := 117) (by decide) rfl (q := (RX12, TX12, 58)) rfl rfl (As := [.ref (r (157)), .int (nI (352 * q1 + 320)), .int 1, .long ((-1))]) (rest := []) (c_X12_streamed l D b0 r M 157 (352 * q1 + 320) (1 : Int32) ((-1)) (by decide) rfl (by decide) (by omega) (by omega)) rfl rfl (Nat.le_of_ble_eq_true rfl) ⟨Nat.le_of_ble_eq_true rfl, Nat.le_of_ble_eq_true rfl⟩ ⟨Nat.zero_le _, Nat.zero_le _⟩ dX12_rekey_56 (fun M_5 H locs eM_5 w => ?_)
        refine lv_aload_n C.1 C.2.1 dX12_rekey_59 rfl (lv_at hl 1 rfl) ?_
        refine m_get C w (k := 117) (j := 34) (v := .ref (r (149))) flX12_177 (by decide) rfl rfl dX12_rekey_60 ?_
        refine lv_iconst (v := 0) C.1 C.2.1 dX12_rekey_63 (by decide) ?_
        refine lv_aload_n C.1 C.2.1 dX12_rekey_64 rfl (lv_at hl 1 rfl) ?_
        refine m_get C w (k := 117) (j := 42) (v := .ref (r (157))) flX12_201 (by decide) rfl rfl dX12_rekey_65 ?_
        refine lv_iload_n C.1 C.2.1 dX12_rekey_68 rfl (lv_at hl 0 rfl) ?_
        refine lv_bipush (v := 32) C.1 C.2.1 dX12_rekey_69 (by decide) ?_
        refine m_csv C w hl csX12_265 (As := [.ref (r (149)), .int 0, .ref (r (157)), .int (nI (352 * q1 + 320)), .int 32]) (rest := []) (c_X12_copy l D b0 r M_5 149 0 157 (352 * q1 + 320) 32 (by decide) rfl (by decide) (by omega) (by decide) rfl (by decide) (by omega) (by omega) (by omega)) rfl rfl (Nat.le_of_ble_eq_true rfl) ⟨Nat.le_of_ble_eq_true rfl, Nat.le_of_ble_eq_true rfl⟩ ⟨Nat.zero_le _, Nat.zero_le _⟩ dX12_rekey_71 (fun M_6 H locs eM_6 w => ?_)
        refine lv_iconst (v := 1) C.1 C.2.1 dX12_rekey_74 (by decide) ?_
        exact m_zret C w (by decide) (by subst eq1 eM_5 eM_6; exact Eq.symm (((if_pos hS).trans ((if_pos h_3).trans ((if_pos h_4).trans rfl))))) dX12_rekey_75
      · refine lv_sipush (v := 288) C.1 C.2.1 dX12_rekey_35 (by decide) ?_
        refine lv_goto (tgt := 44) C.1 C.2.1 dX12_rekey_38 (by decide) ?_
        refine lv_iadd C.1 C.2.1 dX12_rekey_44 ?_
        refine m_i (y := nI (352 * q1 + 288)) (nI_add (352 * q1) 288) ?_
        refine lv_istore_n (lv' := [(3, .int (nI (352 * q1 + 288))), (0, .ref (r (117))), (1, .int (nI (q1))), (2, .int (v2))]) C.1 C.2.1 dX12_rekey_45 rfl hl (by decide) rfl (fun ls hl => ?_)
        refine lv_aload_n C.1 C.2.1 dX12_rekey_46 rfl (lv_at hl 1 rfl) ?_
        refine lv_aload_n C.1 C.2.1 dX12_rekey_47 rfl (lv_at hl 1 rfl) ?_
        refine m_get C w (k := 117) (j := 42) (v := .ref (r (157))) flX12_201 (by decide) rfl rfl dX12_rekey_48 ?_
        refine lv_iload_n C.1 C.2.1 dX12_rekey_51 rfl (lv_at hl 0 rfl) ?_
        refine lv_iconst (v := 1) C.1 C.2.1 dX12_rekey_52 (by decide) ?_
        refine lv_ldc2 (v := (-1)) C.1 C.2.1 C.2.2.2.1 (C.2.2.2.2.1 _ klX12_452) dX12_rekey_53 ?_
        refine m_cvv C w hl cvX12_338 (k := 117) (by decide) rfl (q := (RX12, TX12, 58)) rfl rfl (As := [.ref (r (157)), .int (nI (352 * q1 + 288)), .int 1, .long ((-1))]) (rest := []) (c_X12_streamed l D b0 r M 157 (352 * q1 + 288) (1 : Int32) ((-1)) (by decide) rfl (by decide) (by omega) (by omega)) rfl rfl (Nat.le_of_ble_eq_true rfl) ⟨Nat.le_of_ble_eq_true rfl, Nat.le_of_ble_eq_true rfl⟩ ⟨Nat.zero_le _, Nat.zero_le _⟩ dX12_rekey_56 (fun M_7 H locs eM_7 w => ?_)
        refine lv_aload_n C.1 C.2.1 dX12_rekey_59 rfl (lv_at hl 1 rfl) ?_
        refine m_get C w (k := 117) (j := 34) (v := .ref (r (149))) flX12_177 (by decide) rfl rfl dX12_rekey_60 ?_
        refine lv_iconst (v := 0) C.1 C.2.1 dX12_rekey_63 (by decide) ?_
        refine lv_aload_n C.1 C.2.1 dX12_rekey_64 rfl (lv_at hl 1 rfl) ?_
        refine m_get C w (k := 117) (j := 42) (v := .ref (r (157))) flX12_201 (by decide) rfl rfl dX12_rekey_65 ?_
        refine lv_iload_n C.1 C.2.1 dX12_rekey_68 rfl (lv_at hl 0 rfl) ?_
        refine lv_bipush (v := 32) C.1 C.2.1 dX12_rekey_69 (by decide) ?_
        refine m_csv C w hl csX12_265 (As := [.ref (r (149)), .int 0, .ref (r (157)), .int (nI (352 * q1 + 288)), .int 32]) (rest := []) (c_X12_copy l D b0 r M_7 149 0 157 (352 * q1 + 288) 32 (by decide) rfl (by decide) (by omega) (by decide) rfl (by decide) (by omega) (by omega) (by omega)) rfl rfl (Nat.le_of_ble_eq_true rfl) ⟨Nat.le_of_ble_eq_true rfl, Nat.le_of_ble_eq_true rfl⟩ ⟨Nat.zero_le _, Nat.zero_le _⟩ dX12_rekey_71 (fun M_8 H locs eM_8 w => ?_)
        refine lv_iconst (v := 1) C.1 C.2.1 dX12_rekey_74 (by decide) ?_
        exact m_zret C w (by decide) (by subst eq1 eM_7 eM_8; exact Eq.symm (((if_pos hS).trans ((if_pos h_3).trans ((if_neg (fun q => q h_4)).trans rfl))))) dX12_rekey_75
    · refine lv_iconst (v := 0) C.1 C.2.1 dX12_rekey_18 (by decide) ?_
      exact m_zret C w (by decide) (by subst eq1; exact Eq.symm (((if_pos hS).trans ((if_neg h_3).trans rfl)))) dX12_rekey_19
  · refine lv_aload_n C.1 C.2.1 dX12_rekey_0 rfl (lv_at hl 0 rfl) ?_
    refine lv_iload_n C.1 C.2.1 dX12_rekey_1 rfl (lv_at hl 1 rfl) ?_
    refine m_cvi C w hl cvX12_421 (k := 117) (by decide) rfl (q := (RX12, TX12, 58)) rfl rfl (As := [.int (v1)]) (rest := []) (c_X12_isSession l D b0 r M (v1) ) rfl rfl (Nat.le_of_ble_eq_true rfl) ⟨Nat.le_of_ble_eq_true rfl, Nat.le_of_ble_eq_true rfl⟩ ⟨Nat.zero_le _, Nat.zero_le _⟩ dX12_rekey_2 (fun v_9 M9 H locs e9 w => ?_)
    obtain ⟨ev_9, e9⟩ := e9
    rw [e9] at w
    subst ev_9
    refine lv_if_eq (tgt := 18) C.1 C.2.1 dX12_rekey_5 (by decide) (fun _ => ?_) (fun h_10 => absurd h_10 (fun q => hS q))
    refine lv_iconst (v := 0) C.1 C.2.1 dX12_rekey_18 (by decide) ?_
    exact m_zret C w (by decide) (by exact Eq.symm (((if_neg hS).trans rfl))) dX12_rekey_19

def f_X12_state (v1 : Int32) (v2 : Int32) (M : mm_M) : Int32 :=
  if ¬ f_X12_isSession v1 M = 0 then (let q1 := (v1).toNatClampNeg
  if (v2) = (0 : Int32) then ((M.1 164 q1)) else (if (v2) = (1 : Int32) then (if (M.1 160 q1) = (0 : Int32) then ((0 : Int32)) else ((1 : Int32))) else (if (v2) = (2 : Int32) then (if (M.1 163 q1) = (0 : Int32) then ((0 : Int32)) else ((1 : Int32))) else (if (v2) = (3 : Int32) then (if (M.1 160 q1) = (0 : Int32) then ((((M.2 168 q1) : Int64).toInt32)) else ((((M.2 167 q1) : Int64).toInt32))) else (if (v2) = (4 : Int32) then (if (M.1 160 q1) = (0 : Int32) then ((((M.2 167 q1) : Int64).toInt32)) else ((((M.2 168 q1) : Int64).toInt32))) else (if (v2) = (5 : Int32) then ((M.1 165 q1)) else ((-1 : Int32)))))))) else ((-1 : Int32))
set_option maxHeartbeats 4000000 in
set_option maxRecDepth 100000 in
theorem c_X12_state (l : Launch) (D : va_G) (b0 : Nat) (r : Nat → Nat) (M : mm_M) (v1 : Int32) (v2 : Int32)  : mm_Mi l yX12_state cX12_state 3 .int 2 43 D b0 r [.ref (r (117)), .int (v1), .int (v2)] M (fun v M' => v = f_X12_state v1 v2 M ∧ M' = M) := by
  refine mm_enter (cc := cX12_state) (nL := 3) (ret := (some .int)) (by decide) (Nat.le_of_ble_eq_true rfl) ?_
  intro p e s m args below meth c C w ls hl
  have hl : lv_has ls 3 [(0, .ref (r (117))), (1, .int (v1)), (2, .int (v2))] := hl
  by_cases hS : ¬ f_X12_isSession v1 M = 0
  · obtain ⟨q1, eq1⟩ : ∃ zz, zz = (v1).toNatClampNeg := ⟨_, rfl⟩
    obtain ⟨hvq1, hbq1⟩ : v1 = nI q1 ∧ q1 < 4 := by rw [eq1]; exact g_isSession2 hS
    rw [hvq1] at hl
    have hTq1 : ¬ f_X12_isSession (nI q1) M = 0 := by rw [← hvq1]; exact hS
    refine lv_aload_n C.1 C.2.1 dX12_state_0 rfl (lv_at hl 0 rfl) ?_
    refine lv_iload_n C.1 C.2.1 dX12_state_1 rfl (lv_at hl 1 rfl) ?_
    refine m_cvi C w hl cvX12_421 (k := 117) (by decide) rfl (q := (RX12, TX12, 58)) rfl rfl (As := [.int (nI (q1))]) (rest := []) (c_X12_isSession l D b0 r M (nI (q1)) ) rfl rfl (Nat.le_of_ble_eq_true rfl) ⟨Nat.le_of_ble_eq_true rfl, Nat.le_of_ble_eq_true rfl⟩ ⟨Nat.zero_le _, Nat.zero_le _⟩ dX12_state_2 (fun v_1 M9 H locs e9 w => ?_)
    obtain ⟨ev_1, e9⟩ := e9
    rw [e9] at w
    subst ev_1
    refine lv_if_ne (tgt := 10) C.1 C.2.1 dX12_state_5 (by decide) (fun _ => ?_) (fun h_2 => absurd h_2 hTq1)
    refine lv_iload_n C.1 C.2.1 dX12_state_10 rfl (lv_at hl 2 rfl) ?_
    by_cases h_3 : (v2) = 0
    · refine lv_tableIn (off := 37) (tgt := 48) C.1 C.2.1 dX12_state_11 (by rw [h_3]; decide) (by rw [h_3]; decide) (by rw [h_3]; rfl) (by decide) ?_
      refine lv_aload_n C.1 C.2.1 dX12_state_48 rfl (lv_at hl 0 rfl) ?_
      refine m_get C w (k := 117) (j := 49) (v := .ref (r (164))) flX12_223 (by decide) rfl rfl dX12_state_49 ?_
      refine lv_iload_n C.1 C.2.1 dX12_state_52 rfl (lv_at hl 1 rfl) ?_
      refine m_iald C w (k := 164) (i := q1) (n := 4) (wr := true) (by decide) rfl (by omega) (by decide) dX12_state_53 ?_
      exact m_iret C w ⟨by subst eq1; exact Eq.symm (((if_pos hS).trans ((if_pos h_3).trans rfl))), rfl⟩ dX12_state_54
    · by_cases h_4 : (v2) = 1
      · refine lv_tableIn (off := 44) (tgt := 55) C.1 C.2.1 dX12_state_11 (by rw [h_4]; decide) (by rw [h_4]; decide) (by rw [h_4]; rfl) (by decide) ?_
        refine lv_aload_n C.1 C.2.1 dX12_state_55 rfl (lv_at hl 0 rfl) ?_
        refine m_get C w (k := 117) (j := 45) (v := .ref (r (160))) flX12_211 (by decide) rfl rfl dX12_state_56 ?_
        refine lv_iload_n C.1 C.2.1 dX12_state_59 rfl (lv_at hl 1 rfl) ?_
        refine m_zald C w (k := 160) (i := q1) (n := 4) (wr := true) (by decide) rfl (by omega) (by decide) dX12_state_60 ?_
        refine lv_if_eq (tgt := 68) C.1 C.2.1 dX12_state_61 (by decide) (fun h_5 => ?_) (fun h_5 => ?_)
        · refine lv_iconst (v := 0) C.1 C.2.1 dX12_state_68 (by decide) ?_
          exact m_iret C w ⟨by subst eq1; exact Eq.symm (((if_pos hS).trans ((if_neg h_3).trans ((if_pos h_4).trans ((if_pos h_5).trans rfl))))), rfl⟩ dX12_state_69
        · refine lv_iconst (v := 1) C.1 C.2.1 dX12_state_64 (by decide) ?_
          refine lv_goto (tgt := 69) C.1 C.2.1 dX12_state_65 (by decide) ?_
          exact m_iret C w ⟨by subst eq1; exact Eq.symm (((if_pos hS).trans ((if_neg h_3).trans ((if_pos h_4).trans ((if_neg h_5).trans rfl))))), rfl⟩ dX12_state_69
      · by_cases h_6 : (v2) = 2
        · refine lv_tableIn (off := 59) (tgt := 70) C.1 C.2.1 dX12_state_11 (by rw [h_6]; decide) (by rw [h_6]; decide) (by rw [h_6]; rfl) (by decide) ?_
          refine lv_aload_n C.1 C.2.1 dX12_state_70 rfl (lv_at hl 0 rfl) ?_
          refine m_get C w (k := 117) (j := 48) (v := .ref (r (163))) flX12_220 (by decide) rfl rfl dX12_state_71 ?_
          refine lv_iload_n C.1 C.2.1 dX12_state_74 rfl (lv_at hl 1 rfl) ?_
          refine m_zald C w (k := 163) (i := q1) (n := 4) (wr := true) (by decide) rfl (by omega) (by decide) dX12_state_75 ?_
          refine lv_if_eq (tgt := 83) C.1 C.2.1 dX12_state_76 (by decide) (fun h_7 => ?_) (fun h_7 => ?_)
          · refine lv_iconst (v := 0) C.1 C.2.1 dX12_state_83 (by decide) ?_
            exact m_iret C w ⟨by subst eq1; exact Eq.symm (((if_pos hS).trans ((if_neg h_3).trans ((if_neg h_4).trans ((if_pos h_6).trans ((if_pos h_7).trans rfl)))))), rfl⟩ dX12_state_84
          · refine lv_iconst (v := 1) C.1 C.2.1 dX12_state_79 (by decide) ?_
            refine lv_goto (tgt := 84) C.1 C.2.1 dX12_state_80 (by decide) ?_
            exact m_iret C w ⟨by subst eq1; exact Eq.symm (((if_pos hS).trans ((if_neg h_3).trans ((if_neg h_4).trans ((if_pos h_6).trans ((if_neg h_7).trans rfl)))))), rfl⟩ dX12_state_84
        · by_cases h_8 : (v2) = 3
          · refine lv_tableIn (off := 74) (tgt := 85) C.1 C.2.1 dX12_state_11 (by rw [h_8]; decide) (by rw [h_8]; decide) (by rw [h_8]; rfl) (by decide) ?_
            refine lv_aload_n C.1 C.2.1 dX12_state_85 rfl (lv_at hl 0 rfl) ?_
            refine m_get C w (k := 117) (j := 45) (v := .ref (r (160))) flX12_211 (by decide) rfl rfl dX12_state_86 ?_
            refine lv_iload_n C.1 C.2.1 dX12_state_89 rfl (lv_at hl 1 rfl) ?_
            refine m_zald C w (k := 160) (i := q1) (n := 4) (wr := true) (by decide) rfl (by omega) (by decide) dX12_state_90 ?_
            refine lv_if_eq (tgt := 103) C.1 C.2.1 dX12_state_91 (by decide) (fun h_9 => ?_) (fun h_9 => ?_)
            · refine lv_aload_n C.1 C.2.1 dX12_state_103 rfl (lv_at hl 0 rfl) ?_
              refine m_get C w (k := 117) (j := 53) (v := .ref (r (168))) flX12_235 (by decide) rfl rfl dX12_state_104 ?_
              refine lv_iload_n C.1 C.2.1 dX12_state_107 rfl (lv_at hl 1 rfl) ?_
              refine m_lald C w (k := 168) (i := q1) (n := 4) (wr := true) (by decide) rfl (by omega) (by decide) dX12_state_108 ?_
              refine lv_l2i (v := ((M.2 168 q1) : Int64).toInt32) C.1 C.2.1 dX12_state_109 rfl ?_
              exact m_iret C w ⟨by subst eq1; exact Eq.symm (((if_pos hS).trans ((if_neg h_3).trans ((if_neg h_4).trans ((if_neg h_6).trans ((if_pos h_8).trans ((if_pos h_9).trans rfl))))))), rfl⟩ dX12_state_110
            · refine lv_aload_n C.1 C.2.1 dX12_state_94 rfl (lv_at hl 0 rfl) ?_
              refine m_get C w (k := 117) (j := 52) (v := .ref (r (167))) flX12_232 (by decide) rfl rfl dX12_state_95 ?_
              refine lv_iload_n C.1 C.2.1 dX12_state_98 rfl (lv_at hl 1 rfl) ?_
              refine m_lald C w (k := 167) (i := q1) (n := 4) (wr := true) (by decide) rfl (by omega) (by decide) dX12_state_99 ?_
              refine lv_goto (tgt := 109) C.1 C.2.1 dX12_state_100 (by decide) ?_
              refine lv_l2i (v := ((M.2 167 q1) : Int64).toInt32) C.1 C.2.1 dX12_state_109 rfl ?_
              exact m_iret C w ⟨by subst eq1; exact Eq.symm (((if_pos hS).trans ((if_neg h_3).trans ((if_neg h_4).trans ((if_neg h_6).trans ((if_pos h_8).trans ((if_neg h_9).trans rfl))))))), rfl⟩ dX12_state_110
          · by_cases h_10 : (v2) = 4
            · refine lv_tableIn (off := 100) (tgt := 111) C.1 C.2.1 dX12_state_11 (by rw [h_10]; decide) (by rw [h_10]; decide) (by rw [h_10]; rfl) (by decide) ?_
              refine lv_aload_n C.1 C.2.1 dX12_state_111 rfl (lv_at hl 0 rfl) ?_
              refine m_get C w (k := 117) (j := 45) (v := .ref (r (160))) flX12_211 (by decide) rfl rfl dX12_state_112 ?_
              refine lv_iload_n C.1 C.2.1 dX12_state_115 rfl (lv_at hl 1 rfl) ?_
              refine m_zald C w (k := 160) (i := q1) (n := 4) (wr := true) (by decide) rfl (by omega) (by decide) dX12_state_116 ?_
              refine lv_if_eq (tgt := 129) C.1 C.2.1 dX12_state_117 (by decide) (fun h_11 => ?_) (fun h_11 => ?_)
              · refine lv_aload_n C.1 C.2.1 dX12_state_129 rfl (lv_at hl 0 rfl) ?_
                refine m_get C w (k := 117) (j := 52) (v := .ref (r (167))) flX12_232 (by decide) rfl rfl dX12_state_130 ?_
                refine lv_iload_n C.1 C.2.1 dX12_state_133 rfl (lv_at hl 1 rfl) ?_
                refine m_lald C w (k := 167) (i := q1) (n := 4) (wr := true) (by decide) rfl (by omega) (by decide) dX12_state_134 ?_
                refine lv_l2i (v := ((M.2 167 q1) : Int64).toInt32) C.1 C.2.1 dX12_state_135 rfl ?_
                exact m_iret C w ⟨by subst eq1; exact Eq.symm (((if_pos hS).trans ((if_neg h_3).trans ((if_neg h_4).trans ((if_neg h_6).trans ((if_neg h_8).trans ((if_pos h_10).trans ((if_pos h_11).trans rfl)))))))), rfl⟩ dX12_state_136
              · refine lv_aload_n C.1 C.2.1 dX12_state_120 rfl (lv_at hl 0 rfl) ?_
                refine m_get C w (k := 117) (j := 53) (v := .ref (r (168))) flX12_235 (by decide) rfl rfl dX12_state_121 ?_
                refine lv_iload_n C.1 C.2.1 dX12_state_124 rfl (lv_at hl 1 rfl) ?_
                refine m_lald C w (k := 168) (i := q1) (n := 4) (wr := true) (by decide) rfl (by omega) (by decide) dX12_state_125 ?_
                refine lv_goto (tgt := 135) C.1 C.2.1 dX12_state_126 (by decide) ?_
                refine lv_l2i (v := ((M.2 168 q1) : Int64).toInt32) C.1 C.2.1 dX12_state_135 rfl ?_
                exact m_iret C w ⟨by subst eq1; exact Eq.symm (((if_pos hS).trans ((if_neg h_3).trans ((if_neg h_4).trans ((if_neg h_6).trans ((if_neg h_8).trans ((if_pos h_10).trans ((if_neg h_11).trans rfl)))))))), rfl⟩ dX12_state_136
            · by_cases h_12 : (v2) = 5
              · refine lv_tableIn (off := 126) (tgt := 137) C.1 C.2.1 dX12_state_11 (by rw [h_12]; decide) (by rw [h_12]; decide) (by rw [h_12]; rfl) (by decide) ?_
                refine lv_aload_n C.1 C.2.1 dX12_state_137 rfl (lv_at hl 0 rfl) ?_
                refine m_get C w (k := 117) (j := 50) (v := .ref (r (165))) flX12_226 (by decide) rfl rfl dX12_state_138 ?_
                refine lv_iload_n C.1 C.2.1 dX12_state_141 rfl (lv_at hl 1 rfl) ?_
                refine m_iald C w (k := 165) (i := q1) (n := 4) (wr := true) (by decide) rfl (by omega) (by decide) dX12_state_142 ?_
                exact m_iret C w ⟨by subst eq1; exact Eq.symm (((if_pos hS).trans ((if_neg h_3).trans ((if_neg h_4).trans ((if_neg h_6).trans ((if_neg h_8).trans ((if_neg h_10).trans ((if_pos h_12).trans rfl)))))))), rfl⟩ dX12_state_143
              · refine lv_tableOut (tgt := 144) C.1 C.2.1 dX12_state_11 (by have n0 := lv_neT h_3 (a := 0) rfl; have n1 := lv_neT h_4 (a := 1) rfl; have n2 := lv_neT h_6 (a := 2) rfl; have n3 := lv_neT h_8 (a := 3) rfl; have n4 := lv_neT h_10 (a := 4) rfl; have n5 := lv_neT h_12 (a := 5) rfl; omega) (by decide) ?_
                refine lv_iconst (v := (-1)) C.1 C.2.1 dX12_state_144 (by decide) ?_
                exact m_iret C w ⟨by subst eq1; exact Eq.symm (((if_pos hS).trans ((if_neg h_3).trans ((if_neg h_4).trans ((if_neg h_6).trans ((if_neg h_8).trans ((if_neg h_10).trans ((if_neg h_12).trans rfl)))))))), rfl⟩ dX12_state_145
  · refine lv_aload_n C.1 C.2.1 dX12_state_0 rfl (lv_at hl 0 rfl) ?_
    refine lv_iload_n C.1 C.2.1 dX12_state_1 rfl (lv_at hl 1 rfl) ?_
    refine m_cvi C w hl cvX12_421 (k := 117) (by decide) rfl (q := (RX12, TX12, 58)) rfl rfl (As := [.int (v1)]) (rest := []) (c_X12_isSession l D b0 r M (v1) ) rfl rfl (Nat.le_of_ble_eq_true rfl) ⟨Nat.le_of_ble_eq_true rfl, Nat.le_of_ble_eq_true rfl⟩ ⟨Nat.zero_le _, Nat.zero_le _⟩ dX12_state_2 (fun v_13 M9 H locs e9 w => ?_)
    obtain ⟨ev_13, e9⟩ := e9
    rw [e9] at w
    subst ev_13
    refine lv_if_ne (tgt := 10) C.1 C.2.1 dX12_state_5 (by decide) (fun h_14 => absurd h_14 (fun q => hS q)) (fun _ => ?_)
    refine lv_iconst (v := (-1)) C.1 C.2.1 dX12_state_8 (by decide) ?_
    exact m_iret C w ⟨by exact Eq.symm (((if_neg hS).trans rfl)), rfl⟩ dX12_state_9

def f_X12_told (v1 : Int32) (v2 : Int32) (v3 : Int32) (M : mm_M) : Int32 :=
  if ¬ f_X12_isSession v1 M = 0 ∧ ¬ f_X12_in v3 0 31 = 0 then (let q1 := (v1).toNatClampNeg
  let q3 := (v3).toNatClampNeg
  if (v2) = (0 : Int32) then (((M.1 157 (352 * q1 + q3)) &&& (255 : Int32))) else (if (v2) = (1 : Int32) then (if (M.1 163 q1) = (0 : Int32) then ((-1 : Int32)) else (((M.1 157 (352 * q1 + q3 + 128)) &&& (255 : Int32)))) else (if (v2) = (2 : Int32) then (if (M.1 162 q1) = (0 : Int32) then ((-1 : Int32)) else (((M.1 157 (352 * q1 + q3 + 96)) &&& (255 : Int32)))) else ((-1 : Int32))))) else (if (f_X12_isSession (v1) M) = (0 : Int32) then ((-1 : Int32)) else ((-1 : Int32)))
set_option maxHeartbeats 4000000 in
set_option maxRecDepth 100000 in
theorem c_X12_told (l : Launch) (D : va_G) (b0 : Nat) (r : Nat → Nat) (M : mm_M) (v1 : Int32) (v2 : Int32) (v3 : Int32)  : mm_Mi l yX12_told cX12_told 5 .int 2 43 D b0 r [.ref (r (117)), .int (v1), .int (v2), .int (v3)] M (fun v M' => v = f_X12_told v1 v2 v3 M ∧ M' = M) := by
  refine mm_enter (cc := cX12_told) (nL := 5) (ret := (some .int)) (by decide) (Nat.le_of_ble_eq_true rfl) ?_
  intro p e s m args below meth c C w ls hl
  have hl : lv_has ls 5 [(0, .ref (r (117))), (1, .int (v1)), (2, .int (v2)), (3, .int (v3))] := hl
  by_cases hS : ¬ f_X12_isSession v1 M = 0 ∧ ¬ f_X12_in v3 0 31 = 0
  · obtain ⟨q1, eq1⟩ : ∃ zz, zz = (v1).toNatClampNeg := ⟨_, rfl⟩
    obtain ⟨hvq1, hbq1⟩ : v1 = nI q1 ∧ q1 < 4 := by rw [eq1]; exact g_isSession2 hS.1
    rw [hvq1] at hl
    obtain ⟨q3, eq3⟩ : ∃ zz, zz = (v3).toNatClampNeg := ⟨_, rfl⟩
    obtain ⟨hvq3, hbq3⟩ : v3 = nI q3 ∧ q3 ≤ 31 := by rw [eq3]; exact g_inN (n := 31) (by decide) hS.2
    rw [hvq3] at hl
    have hTq1 : ¬ f_X12_isSession (nI q1) M = 0 := by rw [← hvq1]; exact hS.1
    have hTq3 : ¬ f_X12_in (nI q3) 0 31 = 0 := by rw [← hvq3]; exact hS.2
    refine lv_aload_n C.1 C.2.1 dX12_told_0 rfl (lv_at hl 0 rfl) ?_
    refine lv_iload_n C.1 C.2.1 dX12_told_1 rfl (lv_at hl 1 rfl) ?_
    refine m_cvi C w hl cvX12_421 (k := 117) (by decide) rfl (q := (RX12, TX12, 58)) rfl rfl (As := [.int (nI (q1))]) (rest := []) (c_X12_isSession l D b0 r M (nI (q1)) ) rfl rfl (Nat.le_of_ble_eq_true rfl) ⟨Nat.le_of_ble_eq_true rfl, Nat.le_of_ble_eq_true rfl⟩ ⟨Nat.zero_le _, Nat.zero_le _⟩ dX12_told_2 (fun v_1 M9 H locs e9 w => ?_)
    obtain ⟨ev_1, e9⟩ := e9
    rw [e9] at w
    subst ev_1
    refine lv_if_eq (tgt := 18) C.1 C.2.1 dX12_told_5 (by decide) (fun h_2 => absurd h_2 hTq1) (fun _ => ?_)
    refine lv_iload_n C.1 C.2.1 dX12_told_8 rfl (lv_at hl 3 rfl) ?_
    refine lv_iconst (v := 0) C.1 C.2.1 dX12_told_9 (by decide) ?_
    refine lv_bipush (v := 31) C.1 C.2.1 dX12_told_10 (by decide) ?_
    refine m_csi C w hl csX12_373 (As := [.int (nI (q3)), .int 0, .int 31]) (rest := []) (c_X12_in l D b0 r M (nI (q3)) (0 : Int32) (31 : Int32) ) rfl rfl (Nat.le_of_ble_eq_true rfl) ⟨Nat.le_of_ble_eq_true rfl, Nat.le_of_ble_eq_true rfl⟩ ⟨Nat.zero_le _, Nat.zero_le _⟩ dX12_told_12 (fun v_3 M9 H locs e9 w => ?_)
    obtain ⟨ev_3, e9⟩ := e9
    rw [e9] at w
    subst ev_3
    refine lv_if_ne (tgt := 20) C.1 C.2.1 dX12_told_15 (by decide) (fun _ => ?_) (fun h_4 => absurd h_4 hTq3)
    refine lv_sipush (v := 352) C.1 C.2.1 dX12_told_20 (by decide) ?_
    refine lv_iload_n C.1 C.2.1 dX12_told_23 rfl (lv_at hl 1 rfl) ?_
    refine lv_imul C.1 C.2.1 dX12_told_24 ?_
    refine m_i (y := nI (352 * q1)) (pk_mul 352 q1) ?_
    refine lv_iload_n C.1 C.2.1 dX12_told_25 rfl (lv_at hl 3 rfl) ?_
    refine lv_iadd C.1 C.2.1 dX12_told_26 ?_
    refine m_i (y := nI (352 * q1 + q3)) (nI_add (352 * q1) q3) ?_
    refine lv_istore (lv' := [(4, .int (nI (352 * q1 + q3))), (0, .ref (r (117))), (1, .int (nI (q1))), (2, .int (v2)), (3, .int (nI (q3)))]) C.1 C.2.1 dX12_told_27 hl (by decide) rfl (fun ls hl => ?_)
    refine lv_iload_n C.1 C.2.1 dX12_told_29 rfl (lv_at hl 3 rfl) ?_
    by_cases h_5 : (v2) = 0
    · refine lv_tableIn (off := 26) (tgt := 56) C.1 C.2.1 dX12_told_30 (by rw [h_5]; decide) (by rw [h_5]; decide) (by rw [h_5]; rfl) (by decide) ?_
      refine lv_aload_n C.1 C.2.1 dX12_told_56 rfl (lv_at hl 1 rfl) ?_
      refine m_get C w (k := 117) (j := 42) (v := .ref (r (157))) flX12_201 (by decide) rfl rfl dX12_told_57 ?_
      refine lv_iload C.1 C.2.1 dX12_told_60 (lv_at hl 0 rfl) ?_
      refine lv_iconst (v := 0) C.1 C.2.1 dX12_told_62 (by decide) ?_
      refine lv_iadd C.1 C.2.1 dX12_told_63 ?_
      refine m_i (y := nI (352 * q1 + q3)) (nI_add (352 * q1 + q3) 0) ?_
      refine m_bald C w (k := 157) (i := 352 * q1 + q3) (n := 1408) (wr := true) (by decide) rfl (by omega) (by decide) dX12_told_64 ?_
      refine lv_sipush (v := 255) C.1 C.2.1 dX12_told_65 (by decide) ?_
      refine lv_iand C.1 C.2.1 dX12_told_68 ?_
      exact m_iret C w ⟨by subst eq1 eq3; exact Eq.symm (((if_pos hS).trans ((if_pos h_5).trans rfl))), rfl⟩ dX12_told_69
    · by_cases h_6 : (v2) = 1
      · refine lv_tableIn (off := 40) (tgt := 70) C.1 C.2.1 dX12_told_30 (by rw [h_6]; decide) (by rw [h_6]; decide) (by rw [h_6]; rfl) (by decide) ?_
        refine lv_aload_n C.1 C.2.1 dX12_told_70 rfl (lv_at hl 1 rfl) ?_
        refine m_get C w (k := 117) (j := 48) (v := .ref (r (163))) flX12_220 (by decide) rfl rfl dX12_told_71 ?_
        refine lv_iload_n C.1 C.2.1 dX12_told_74 rfl (lv_at hl 2 rfl) ?_
        refine m_zald C w (k := 163) (i := q1) (n := 4) (wr := true) (by decide) rfl (by omega) (by decide) dX12_told_75 ?_
        refine lv_if_eq (tgt := 97) C.1 C.2.1 dX12_told_76 (by decide) (fun h_7 => ?_) (fun h_7 => ?_)
        · refine lv_iconst (v := (-1)) C.1 C.2.1 dX12_told_97 (by decide) ?_
          exact m_iret C w ⟨by subst eq1 eq3; exact Eq.symm (((if_pos hS).trans ((if_neg h_5).trans ((if_pos h_6).trans ((if_pos h_7).trans rfl))))), rfl⟩ dX12_told_98
        · refine lv_aload_n C.1 C.2.1 dX12_told_79 rfl (lv_at hl 1 rfl) ?_
          refine m_get C w (k := 117) (j := 42) (v := .ref (r (157))) flX12_201 (by decide) rfl rfl dX12_told_80 ?_
          refine lv_iload C.1 C.2.1 dX12_told_83 (lv_at hl 0 rfl) ?_
          refine lv_sipush (v := 128) C.1 C.2.1 dX12_told_85 (by decide) ?_
          refine lv_iadd C.1 C.2.1 dX12_told_88 ?_
          refine m_i (y := nI (352 * q1 + q3 + 128)) (nI_add (352 * q1 + q3) 128) ?_
          refine m_bald C w (k := 157) (i := 352 * q1 + q3 + 128) (n := 1408) (wr := true) (by decide) rfl (by omega) (by decide) dX12_told_89 ?_
          refine lv_sipush (v := 255) C.1 C.2.1 dX12_told_90 (by decide) ?_
          refine lv_iand C.1 C.2.1 dX12_told_93 ?_
          refine lv_goto (tgt := 98) C.1 C.2.1 dX12_told_94 (by decide) ?_
          exact m_iret C w ⟨by subst eq1 eq3; exact Eq.symm (((if_pos hS).trans ((if_neg h_5).trans ((if_pos h_6).trans ((if_neg h_7).trans rfl))))), rfl⟩ dX12_told_98
      · by_cases h_8 : (v2) = 2
        · refine lv_tableIn (off := 69) (tgt := 99) C.1 C.2.1 dX12_told_30 (by rw [h_8]; decide) (by rw [h_8]; decide) (by rw [h_8]; rfl) (by decide) ?_
          refine lv_aload_n C.1 C.2.1 dX12_told_99 rfl (lv_at hl 1 rfl) ?_
          refine m_get C w (k := 117) (j := 47) (v := .ref (r (162))) flX12_217 (by decide) rfl rfl dX12_told_100 ?_
          refine lv_iload_n C.1 C.2.1 dX12_told_103 rfl (lv_at hl 2 rfl) ?_
          refine m_zald C w (k := 162) (i := q1) (n := 4) (wr := true) (by decide) rfl (by omega) (by decide) dX12_told_104 ?_
          refine lv_if_eq (tgt := 125) C.1 C.2.1 dX12_told_105 (by decide) (fun h_9 => ?_) (fun h_9 => ?_)
          · refine lv_iconst (v := (-1)) C.1 C.2.1 dX12_told_125 (by decide) ?_
            exact m_iret C w ⟨by subst eq1 eq3; exact Eq.symm (((if_pos hS).trans ((if_neg h_5).trans ((if_neg h_6).trans ((if_pos h_8).trans ((if_pos h_9).trans rfl)))))), rfl⟩ dX12_told_126
          · refine lv_aload_n C.1 C.2.1 dX12_told_108 rfl (lv_at hl 1 rfl) ?_
            refine m_get C w (k := 117) (j := 42) (v := .ref (r (157))) flX12_201 (by decide) rfl rfl dX12_told_109 ?_
            refine lv_iload C.1 C.2.1 dX12_told_112 (lv_at hl 0 rfl) ?_
            refine lv_bipush (v := 96) C.1 C.2.1 dX12_told_114 (by decide) ?_
            refine lv_iadd C.1 C.2.1 dX12_told_116 ?_
            refine m_i (y := nI (352 * q1 + q3 + 96)) (nI_add (352 * q1 + q3) 96) ?_
            refine m_bald C w (k := 157) (i := 352 * q1 + q3 + 96) (n := 1408) (wr := true) (by decide) rfl (by omega) (by decide) dX12_told_117 ?_
            refine lv_sipush (v := 255) C.1 C.2.1 dX12_told_118 (by decide) ?_
            refine lv_iand C.1 C.2.1 dX12_told_121 ?_
            refine lv_goto (tgt := 126) C.1 C.2.1 dX12_told_122 (by decide) ?_
            exact m_iret C w ⟨by subst eq1 eq3; exact Eq.symm (((if_pos hS).trans ((if_neg h_5).trans ((if_neg h_6).trans ((if_pos h_8).trans ((if_neg h_9).trans rfl)))))), rfl⟩ dX12_told_126
        · refine lv_tableOut (tgt := 127) C.1 C.2.1 dX12_told_30 (by have n0 := lv_neT h_5 (a := 0) rfl; have n1 := lv_neT h_6 (a := 1) rfl; have n2 := lv_neT h_8 (a := 2) rfl; omega) (by decide) ?_
          refine lv_iconst (v := (-1)) C.1 C.2.1 dX12_told_127 (by decide) ?_
          exact m_iret C w ⟨by subst eq1 eq3; exact Eq.symm (((if_pos hS).trans ((if_neg h_5).trans ((if_neg h_6).trans ((if_neg h_8).trans rfl))))), rfl⟩ dX12_told_128
  · refine lv_aload_n C.1 C.2.1 dX12_told_0 rfl (lv_at hl 0 rfl) ?_
    refine lv_iload_n C.1 C.2.1 dX12_told_1 rfl (lv_at hl 1 rfl) ?_
    refine m_cvi C w hl cvX12_421 (k := 117) (by decide) rfl (q := (RX12, TX12, 58)) rfl rfl (As := [.int (v1)]) (rest := []) (c_X12_isSession l D b0 r M (v1) ) rfl rfl (Nat.le_of_ble_eq_true rfl) ⟨Nat.le_of_ble_eq_true rfl, Nat.le_of_ble_eq_true rfl⟩ ⟨Nat.zero_le _, Nat.zero_le _⟩ dX12_told_2 (fun v_10 M9 H locs e9 w => ?_)
    obtain ⟨ev_10, e9⟩ := e9
    rw [e9] at w
    subst ev_10
    refine lv_if_eq (tgt := 18) C.1 C.2.1 dX12_told_5 (by decide) (fun h_11 => ?_) (fun h_11 => ?_)
    · refine lv_iconst (v := (-1)) C.1 C.2.1 dX12_told_18 (by decide) ?_
      exact m_iret C w ⟨by exact Eq.symm (((if_neg hS).trans ((if_pos h_11).trans rfl))), rfl⟩ dX12_told_19
    · refine lv_iload_n C.1 C.2.1 dX12_told_8 rfl (lv_at hl 3 rfl) ?_
      refine lv_iconst (v := 0) C.1 C.2.1 dX12_told_9 (by decide) ?_
      refine lv_bipush (v := 31) C.1 C.2.1 dX12_told_10 (by decide) ?_
      refine m_csi C w hl csX12_373 (As := [.int (v3), .int 0, .int 31]) (rest := []) (c_X12_in l D b0 r M (v3) (0 : Int32) (31 : Int32) ) rfl rfl (Nat.le_of_ble_eq_true rfl) ⟨Nat.le_of_ble_eq_true rfl, Nat.le_of_ble_eq_true rfl⟩ ⟨Nat.zero_le _, Nat.zero_le _⟩ dX12_told_12 (fun v_12 M9 H locs e9 w => ?_)
      obtain ⟨ev_12, e9⟩ := e9
      rw [e9] at w
      subst ev_12
      refine lv_if_ne (tgt := 20) C.1 C.2.1 dX12_told_15 (by decide) (fun h_13 => absurd h_13 (fun q => hS ⟨h_11, q⟩)) (fun _ => ?_)
      refine lv_iconst (v := (-1)) C.1 C.2.1 dX12_told_18 (by decide) ?_
      exact m_iret C w ⟨by exact Eq.symm (((if_neg hS).trans ((if_neg h_11).trans rfl))), rfl⟩ dX12_told_19
