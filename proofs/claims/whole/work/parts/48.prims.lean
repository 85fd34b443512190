theorem g_isKey2 {v : Int32} (h : ¬ f_X12_isKey v = 0) : v = nI v.toNatClampNeg ∧ v.toNatClampNeg < 8 := by
  obtain ⟨a, b⟩ := g_inN (n := 7) (by decide) h
  exact ⟨a, by omega⟩

def f_X12_patch (v1 : Int32) (v2 : Int32) (ts : Nat) (M : mm_M) : Int32 × mm_M :=
  if ¬ f_X12_in v1 0 (nI ts - 1) = 0 then (let q1 := (v1).toNatClampNeg
  let M_3 := mm_w M 118 q1 (mm_b (v2))
  ((1 : Int32), M_3)) else (((0 : Int32), M))
theorem w_f_X12_patch (v1 : Int32) (v2 : Int32) (ts : Nat) (M : mm_M) : mm_fr2 [118] M (f_X12_patch v1 v2 ts M) := by
  unfold f_X12_patch
  exact (mm_fr_ite2 (fun _ => (mm_fr_w (by simp) (mm_fr_refl _ _)).b) (fun _ => (mm_fr_refl _ _).b))
set_option maxHeartbeats 4000000 in
set_option maxRecDepth 100000 in
theorem c_X12_patch (l : Launch) (D : va_G) (b0 : Nat) (r : Nat → Nat) (M : mm_M) (v1 : Int32) (v2 : Int32) (ts : Nat) (hts : ts ≤ 1000) (h1 : M.1 117 4 = nI ts) : mm_Mi l yX12_patch cX12_patch 3 .boolean 1 22 D b0 r [.ref (r (117)), .int (v1), .int (v2)] M (fun v M' => (v, M') = f_X12_patch v1 v2 ts M) := by
  refine mm_enter (cc := cX12_patch) (nL := 3) (ret := (some .boolean)) (by decide) (Nat.le_of_ble_eq_true rfl) ?_
  intro p e s m args below meth c C w ls hl
  have hl : lv_has ls 3 [(0, .ref (r (117))), (1, .int (v1)), (2, .int (v2))] := hl
  by_cases hS : ¬ f_X12_in v1 0 (nI ts - 1) = 0
  · obtain ⟨q1, eq1⟩ : ∃ zz, zz = (v1).toNatClampNeg := ⟨_, rfl⟩
    obtain ⟨hvq1, hbq1⟩ : v1 = nI q1 ∧ q1 < ts := by rw [eq1]; exact g_inL (by omega) hS
    rw [hvq1] at hl
    have hTq1 : ¬ f_X12_in (nI q1) 0 (nI ts - 1) = 0 := by rw [← hvq1]; exact hS
    refine lv_iload_n C.1 C.2.1 dX12_patch_0 rfl (lv_at hl 1 rfl) ?_
    refine lv_iconst (v := 0) C.1 C.2.1 dX12_patch_1 (by decide) ?_
    refine lv_aload_n C.1 C.2.1 dX12_patch_2 rfl (lv_at hl 0 rfl) ?_
    refine m_get C w (k := 117) (j := 4) (v := .int (M.1 117 4)) flX12_364 (by decide) rfl rfl dX12_patch_3 ?_
    refine m_i (y := nI (ts)) h1 ?_
    refine lv_iconst (v := 1) C.1 C.2.1 dX12_patch_6 (by decide) ?_
    refine lv_isub C.1 C.2.1 dX12_patch_7 ?_
    refine m_csi C w hl csX12_373 (As := [.int (nI (q1)), .int 0, .int ((nI (ts)) - (1 : Int32))]) (rest := []) (c_X12_in l D b0 r M (nI (q1)) (0 : Int32) ((nI (ts)) - (1 : Int32)) ) rfl rfl (Nat.le_of_ble_eq_true rfl) ⟨Nat.le_of_ble_eq_true rfl, Nat.le_of_ble_eq_true rfl⟩ ⟨Nat.zero_le _, Nat.zero_le _⟩ dX12_patch_8 (fun v_1 M9 H locs e9 w => ?_)
    obtain ⟨ev_1, e9⟩ := e9
    rw [e9] at w
    subst ev_1
    refine lv_if_ne (tgt := 16) C.1 C.2.1 dX12_patch_11 (by decide) (fun _ => ?_) (fun h_2 => absurd h_2 hTq1)
    refine lv_aload_n C.1 C.2.1 dX12_patch_16 rfl (lv_at hl 0 rfl) ?_
    refine m_get C w (k := 117) (j := 0) (v := .ref (r (118))) flX12_7 (by decide) rfl rfl dX12_patch_17 ?_
    refine lv_iload_n C.1 C.2.1 dX12_patch_20 rfl (lv_at hl 1 rfl) ?_
    refine lv_iload_n C.1 C.2.1 dX12_patch_21 rfl (lv_at hl 2 rfl) ?_
    refine lv_i2b (v := mm_b (v2)) C.1 C.2.1 dX12_patch_22 rfl ?_
    refine m_bast C w (k := 118) (i := q1) (n := 1000) (x := (mm_b (v2))) (by decide) rfl (by omega) (by decide) (mm_bb _) dX12_patch_23 (fun H locs w => ?_)
    obtain ⟨M_3, eM_3⟩ : ∃ zz, zz = mm_w M 118 q1 (mm_b (v2)) := ⟨_, rfl⟩
    rw [← eM_3] at w
    refine lv_iconst (v := 1) C.1 C.2.1 dX12_patch_24 (by decide) ?_
    exact m_zret C w (by decide) (by subst eq1 eM_3; exact Eq.symm (((if_pos hS).trans rfl))) dX12_patch_25
  · refine lv_iload_n C.1 C.2.1 dX12_patch_0 rfl (lv_at hl 1 rfl) ?_
    refine lv_iconst (v := 0) C.1 C.2.1 dX12_patch_1 (by decide) ?_
    refine lv_aload_n C.1 C.2.1 dX12_patch_2 rfl (lv_at hl 0 rfl) ?_
    refine m_get C w (k := 117) (j := 4) (v := .int (M.1 117 4)) flX12_364 (by decide) rfl rfl dX12_patch_3 ?_
    refine m_i (y := nI (ts)) h1 ?_
    refine lv_iconst (v := 1) C.1 C.2.1 dX12_patch_6 (by decide) ?_
    refine lv_isub C.1 C.2.1 dX12_patch_7 ?_
    refine m_csi C w hl csX12_373 (As := [.int (v1), .int 0, .int ((nI (ts)) - (1 : Int32))]) (rest := []) (c_X12_in l D b0 r M (v1) (0 : Int32) ((nI (ts)) - (1 : Int32)) ) rfl rfl (Nat.le_of_ble_eq_true rfl) ⟨Nat.le_of_ble_eq_true rfl, Nat.le_of_ble_eq_true rfl⟩ ⟨Nat.zero_le _, Nat.zero_le _⟩ dX12_patch_8 (fun v_4 M9 H locs e9 w => ?_)
    obtain ⟨ev_4, e9⟩ := e9
    rw [e9] at w
    subst ev_4
    refine lv_if_ne (tgt := 16) C.1 C.2.1 dX12_patch_11 (by decide) (fun h_5 => absurd h_5 (fun q => hS q)) (fun _ => ?_)
    refine lv_iconst (v := 0) C.1 C.2.1 dX12_patch_14 (by decide) ?_
    exact m_zret C w (by decide) (by exact Eq.symm (((if_neg hS).trans rfl))) dX12_patch_15

def f_X12_key (v1 : Int32) (ts : Nat) (M : mm_M) : Int32 × mm_M :=
  if ¬ f_X12_isKey v1 = 0 ∧ 32 ≤ ts then (let q1 := (v1).toNatClampNeg
  let M_4 := f_X12_takes ts M
  let M_5 := f_X12_copy 119 0 122 (32 * q1) 32 M_4
  ((1 : Int32), M_5)) else (if (f_X12_isKey (v1)) = (0 : Int32) then (((0 : Int32), M)) else (((0 : Int32), M)))
theorem w_f_X12_key (v1 : Int32) (ts : Nat) (M : mm_M) : mm_fr2 [119, 117, 122] M (f_X12_key v1 ts M) := by
  unfold f_X12_key
  exact (mm_fr_ite2 (fun _ => ((w_f_X12_copy _ _ _ _ _ _).on (by simp) ((w_f_X12_takes _ _).on (by simp) (mm_fr_refl _ _))).b) (fun _ => (mm_fr_ite2 (fun _ => (mm_fr_refl _ _).b) (fun _ => (mm_fr_refl _ _).b))))
set_option maxHeartbeats 4000000 in
set_option maxRecDepth 100000 in
theorem c_X12_key (l : Launch) (D : va_G) (b0 : Nat) (r : Nat → Nat) (M : mm_M) (v1 : Int32) (ts : Nat) (hts : ts ≤ 1000) (h1 : M.1 117 4 = nI ts) : mm_Mi l yX12_key cX12_key 2 .boolean 2 45 D b0 r [.ref (r (117)), .int (v1)] M (fun v M' => (v, M') = f_X12_key v1 ts M) := by
  refine mm_enter (cc := cX12_key) (nL := 2) (ret := (some .boolean)) (by decide) (Nat.le_of_ble_eq_true rfl) ?_
  intro p e s m args below meth c C w ls hl
  have hl : lv_has ls 2 [(0, .ref (r (117))), (1, .int (v1))] := hl
  by_cases hS : ¬ f_X12_isKey v1 = 0 ∧ 32 ≤ ts
  · obtain ⟨q1, eq1⟩ : ∃ zz, zz = (v1).toNatClampNeg := ⟨_, rfl⟩
    obtain ⟨hvq1, hbq1⟩ : v1 = nI q1 ∧ q1 < 8 := by rw [eq1]; exact g_isKey2 hS.1
    rw [hvq1] at hl
    have hTq1 : ¬ f_X12_isKey (nI q1) = 0 := by rw [← hvq1]; exact hS.1
    have hS2 := hS.2
    refine lv_iload_n C.1 C.2.1 dX12_key_0 rfl (lv_at hl 1 rfl) ?_
    refine m_csi C w hl csX12_377 (As := [.int (nI (q1))]) (rest := []) (c_X12_isKey l D b0 r M (nI (q1)) ) rfl rfl (Nat.le_of_ble_eq_true rfl) ⟨Nat.le_of_ble_eq_true rfl, Nat.le_of_ble_eq_true rfl⟩ ⟨Nat.zero_le _, Nat.zero_le _⟩ dX12_key_1 (fun v_1 M9 H locs e9 w => ?_)
    obtain ⟨ev_1, e9⟩ := e9
    rw [e9] at w
    subst ev_1
    refine lv_if_eq (tgt := 16) C.1 C.2.1 dX12_key_4 (by decide) (fun h_2 => absurd h_2 hTq1) (fun _ => ?_)
    refine lv_aload_n C.1 C.2.1 dX12_key_7 rfl (lv_at hl 0 rfl) ?_
    refine m_get C w (k := 117) (j := 4) (v := .int (M.1 117 4)) flX12_364 (by decide) rfl rfl dX12_key_8 ?_
    refine m_i (y := nI (ts)) h1 ?_
    refine lv_bipush (v := 32) C.1 C.2.1 dX12_key_11 (by decide) ?_
    refine m_icmp_ge (tgt := 18) (a := ts) (b := 32) C (by omega) (by omega) dX12_key_13 (by decide) (fun _ => ?_) (fun h_3 => absurd h_3 (by omega))
    refine lv_aload_n C.1 C.2.1 dX12_key_18 rfl (lv_at hl 0 rfl) ?_
    refine m_cvv C w hl cvX12_381 (k := 117) (by decide) rfl (q := (RX12, TX12, 58)) rfl rfl (As := []) (rest := []) (c_X12_takes l D b0 r M ts (by omega) h1) rfl rfl (Nat.le_of_ble_eq_true rfl) ⟨Nat.le_of_ble_eq_true rfl, Nat.le_of_ble_eq_true rfl⟩ ⟨Nat.zero_le _, Nat.zero_le _⟩ dX12_key_19 (fun M_4 H locs eM_4 w => ?_)
    refine lv_aload_n C.1 C.2.1 dX12_key_22 rfl (lv_at hl 0 rfl) ?_
    refine m_get C w (k := 117) (j := 1) (v := .ref (r (119))) flX12_13 (by decide) rfl rfl dX12_key_23 ?_
    refine lv_iconst (v := 0) C.1 C.2.1 dX12_key_26 (by decide) ?_
    refine lv_aload_n C.1 C.2.1 dX12_key_27 rfl (lv_at hl 0 rfl) ?_
    refine m_get C w (k := 117) (j := 6) (v := .ref (r (122))) flX12_22 (by decide) rfl rfl dX12_key_28 ?_
    refine lv_bipush (v := 32) C.1 C.2.1 dX12_key_31 (by decide) ?_
    refine lv_iload_n C.1 C.2.1 dX12_key_33 rfl (lv_at hl 1 rfl) ?_
    refine lv_imul C.1 C.2.1 dX12_key_34 ?_
    refine m_i (y := nI (32 * q1)) (pk_mul 32 q1) ?_
    refine lv_bipush (v := 32) C.1 C.2.1 dX12_key_35 (by decide) ?_
    refine m_csv C w hl csX12_265 (As := [.ref (r (119)), .int 0, .ref (r (122)), .int (nI (32 * q1)), .int 32]) (rest := []) (c_X12_copy l D b0 r M_4 119 0 122 (32 * q1) 32 (by decide) rfl (by decide) (by omega) (by decide) rfl (by decide) (by omega) (by omega) (by omega)) rfl rfl (Nat.le_of_ble_eq_true rfl) ⟨Nat.le_of_ble_eq_true rfl, Nat.le_of_ble_eq_true rfl⟩ ⟨Nat.zero_le _, Nat.zero_le _⟩ dX12_key_37 (fun M_5 H locs eM_5 w => ?_)
    refine lv_iconst (v := 1) C.1 C.2.1 dX12_key_40 (by decide) ?_
    exact m_zret C w (by decide) (by subst eq1 eM_4 eM_5; exact Eq.symm (((if_pos hS).trans rfl))) dX12_key_41
  · refine lv_iload_n C.1 C.2.1 dX12_key_0 rfl (lv_at hl 1 rfl) ?_
    refine m_csi C w hl csX12_377 (As := [.int (v1)]) (rest := []) (c_X12_isKey l D b0 r M (v1) ) rfl rfl (Nat.le_of_ble_eq_true rfl) ⟨Nat.le_of_ble_eq_true rfl, Nat.le_of_ble_eq_true rfl⟩ ⟨Nat.zero_le _, Nat.zero_le _⟩ dX12_key_1 (fun v_6 M9 H locs e9 w => ?_)
    obtain ⟨ev_6, e9⟩ := e9
    rw [e9] at w
    subst ev_6
    refine lv_if_eq (tgt := 16) C.1 C.2.1 dX12_key_4 (by decide) (fun h_7 => ?_) (fun h_7 => ?_)
    · refine lv_iconst (v := 0) C.1 C.2.1 dX12_key_16 (by decide) ?_
      exact m_zret C w (by decide) (by exact Eq.symm (((if_neg hS).trans ((if_pos h_7).trans rfl)))) dX12_key_17
    · refine lv_aload_n C.1 C.2.1 dX12_key_7 rfl (lv_at hl 0 rfl) ?_
      refine m_get C w (k := 117) (j := 4) (v := .int (M.1 117 4)) flX12_364 (by decide) rfl rfl dX12_key_8 ?_
      refine m_i (y := nI (ts)) h1 ?_
      refine lv_bipush (v := 32) C.1 C.2.1 dX12_key_11 (by decide) ?_
      refine m_icmp_ge (tgt := 18) (a := ts) (b := 32) C (by omega) (by omega) dX12_key_13 (by decide) (fun h_8 => absurd h_8 (fun q => hS ⟨h_7, q⟩)) (fun _ => ?_)
      refine lv_iconst (v := 0) C.1 C.2.1 dX12_key_16 (by decide) ?_
      exact m_zret C w (by decide) (by exact Eq.symm (((if_neg hS).trans ((if_neg h_7).trans rfl)))) dX12_key_17

def f_X12_take (v1 : Int32) (rs : Nat) (M : mm_M) : Int32 × mm_M :=
  if ¬ f_X12_isKey v1 = 0 ∧ 32 ≤ rs then (let q1 := (v1).toNatClampNeg
  let M_4 := f_X12_copy 121 0 122 (32 * q1) 32 M
  ((1 : Int32), M_4)) else (if (f_X12_isKey (v1)) = (0 : Int32) then (((0 : Int32), M)) else (((0 : Int32), M)))
theorem w_f_X12_take (v1 : Int32) (rs : Nat) (M : mm_M) : mm_fr2 [122] M (f_X12_take v1 rs M) := by
  unfold f_X12_take
  exact (mm_fr_ite2 (fun _ => ((w_f_X12_copy _ _ _ _ _ _).on (by simp) (mm_fr_refl _ _)).b) (fun _ => (mm_fr_ite2 (fun _ => (mm_fr_refl _ _).b) (fun _ => (mm_fr_refl _ _).b))))
set_option maxHeartbeats 4000000 in
set_option maxRecDepth 100000 in
theorem c_X12_take (l : Launch) (D : va_G) (b0 : Nat) (r : Nat → Nat) (M : mm_M) (v1 : Int32) (rs : Nat) (hrs : rs ≤ 1000) (h3 : M.1 117 5 = nI rs) : mm_Mi l yX12_take cX12_take 2 .boolean 2 42 D b0 r [.ref (r (117)), .int (v1)] M (fun v M' => (v, M') = f_X12_take v1 rs M) := by
  refine mm_enter (cc := cX12_take) (nL := 2) (ret := (some .boolean)) (by decide) (Nat.le_of_ble_eq_true rfl) ?_
  intro p e s m args below meth c C w ls hl
  have hl : lv_has ls 2 [(0, .ref (r (117))), (1, .int (v1))] := hl
  by_cases hS : ¬ f_X12_isKey v1 = 0 ∧ 32 ≤ rs
  · obtain ⟨q1, eq1⟩ : ∃ zz, zz = (v1).toNatClampNeg := ⟨_, rfl⟩
    obtain ⟨hvq1, hbq1⟩ : v1 = nI q1 ∧ q1 < 8 := by rw [eq1]; exact g_isKey2 hS.1
    rw [hvq1] at hl
    have hTq1 : ¬ f_X12_isKey (nI q1) = 0 := by rw [← hvq1]; exact hS.1
    have hS2 := hS.2
    refine lv_iload_n C.1 C.2.1 dX12_take_0 rfl (lv_at hl 1 rfl) ?_
    refine m_csi C w hl csX12_377 (As := [.int (nI (q1))]) (rest := []) (c_X12_isKey l D b0 r M (nI (q1)) ) rfl rfl (Nat.le_of_ble_eq_true rfl) ⟨Nat.le_of_ble_eq_true rfl, Nat.le_of_ble_eq_true rfl⟩ ⟨Nat.zero_le _, Nat.zero_le _⟩ dX12_take_1 (fun v_1 M9 H locs e9 w => ?_)
    obtain ⟨ev_1, e9⟩ := e9
    rw [e9] at w
    subst ev_1
    refine lv_if_eq (tgt := 16) C.1 C.2.1 dX12_take_4 (by decide) (fun h_2 => absurd h_2 hTq1) (fun _ => ?_)
    refine lv_aload_n C.1 C.2.1 dX12_take_7 rfl (lv_at hl 0 rfl) ?_
    refine m_get C w (k := 117) (j := 5) (v := .int (M.1 117 5)) flX12_370 (by decide) rfl rfl dX12_take_8 ?_
    refine m_i (y := nI (rs)) h3 ?_
    refine lv_bipush (v := 32) C.1 C.2.1 dX12_take_11 (by decide) ?_
    refine m_icmp_ge (tgt := 18) (a := rs) (b := 32) C (by omega) (by omega) dX12_take_13 (by decide) (fun _ => ?_) (fun h_3 => absurd h_3 (by omega))
    refine lv_aload_n C.1 C.2.1 dX12_take_18 rfl (lv_at hl 0 rfl) ?_
    refine m_get C w (k := 117) (j := 3) (v := .ref (r (121))) flX12_19 (by decide) rfl rfl dX12_take_19 ?_
    refine lv_iconst (v := 0) C.1 C.2.1 dX12_take_22 (by decide) ?_
    refine lv_aload_n C.1 C.2.1 dX12_take_23 rfl (lv_at hl 0 rfl) ?_
    refine m_get C w (k := 117) (j := 6) (v := .ref (r (122))) flX12_22 (by decide) rfl rfl dX12_take_24 ?_
    refine lv_bipush (v := 32) C.1 C.2.1 dX12_take_27 (by decide) ?_
    refine lv_iload_n C.1 C.2.1 dX12_take_29 rfl (lv_at hl 1 rfl) ?_
    refine lv_imul C.1 C.2.1 dX12_take_30 ?_
    refine m_i (y := nI (32 * q1)) (pk_mul 32 q1) ?_
    refine lv_bipush (v := 32) C.1 C.2.1 dX12_take_31 (by decide) ?_
    refine m_csv C w hl csX12_265 (As := [.ref (r (121)), .int 0, .ref (r (122)), .int (nI (32 * q1)), .int 32]) (rest := []) (c_X12_copy l D b0 r M 121 0 122 (32 * q1) 32 (by decide) rfl (by decide) (by omega) (by decide) rfl (by decide) (by omega) (by omega) (by omega)) rfl rfl (Nat.le_of_ble_eq_true rfl) ⟨Nat.le_of_ble_eq_true rfl, Nat.le_of_ble_eq_true rfl⟩ ⟨Nat.zero_le _, Nat.zero_le _⟩ dX12_take_33 (fun M_4 H locs eM_4 w => ?_)
    refine lv_iconst (v := 1) C.1 C.2.1 dX12_take_36 (by decide) ?_
    exact m_zret C w (by decide) (by subst eq1 eM_4; exact Eq.symm (((if_pos hS).trans rfl))) dX12_take_37
  · refine lv_iload_n C.1 C.2.1 dX12_take_0 rfl (lv_at hl 1 rfl) ?_
    refine m_csi C w hl csX12_377 (As := [.int (v1)]) (rest := []) (c_X12_isKey l D b0 r M (v1) ) rfl rfl (Nat.le_of_ble_eq_true rfl) ⟨Nat.le_of_ble_eq_true rfl, Nat.le_of_ble_eq_true rfl⟩ ⟨Nat.zero_le _, Nat.zero_le _⟩ dX12_take_1 (fun v_5 M9 H locs e9 w => ?_)
    obtain ⟨ev_5, e9⟩ := e9
    rw [e9] at w
    subst ev_5
    refine lv_if_eq (tgt := 16) C.1 C.2.1 dX12_take_4 (by decide) (fun h_6 => ?_) (fun h_6 => ?_)
    · refine lv_iconst (v := 0) C.1 C.2.1 dX12_take_16 (by decide) ?_
      exact m_zret C w (by decide) (by exact Eq.symm (((if_neg hS).trans ((if_pos h_6).trans rfl)))) dX12_take_17
    · refine lv_aload_n C.1 C.2.1 dX12_take_7 rfl (lv_at hl 0 rfl) ?_
      refine m_get C w (k := 117) (j := 5) (v := .int (M.1 117 5)) flX12_370 (by decide) rfl rfl dX12_take_8 ?_
      refine m_i (y := nI (rs)) h3 ?_
      refine lv_bipush (v := 32) C.1 C.2.1 dX12_take_11 (by decide) ?_
      refine m_icmp_ge (tgt := 18) (a := rs) (b := 32) C (by omega) (by omega) dX12_take_13 (by decide) (fun h_7 => absurd h_7 (fun q => hS ⟨h_6, q⟩)) (fun _ => ?_)
      refine lv_iconst (v := 0) C.1 C.2.1 dX12_take_16 (by decide) ?_
      exact m_zret C w (by decide) (by exact Eq.symm (((if_neg hS).trans ((if_neg h_6).trans rfl)))) dX12_take_17

def f_X12_curve_B1 (v2 : Int32) (ts : Nat) (M : mm_M) (q1 : Nat) : Int32 × mm_M :=
  if (v2) = (0 : Int32) then (let M_5 := f_X12_takes ts M
  let M_6 := f_X12_curved 122 (32 * q1) 119 0 M_5
  let v_8 := (f_X12_tells 145 32 M_6).1
  let M_7 := (f_X12_tells 145 32 M_6).2
  ((v_8), M_7)) else (let M_9 := f_X12_curvedOwn 122 (32 * q1) M
  let v_11 := (f_X12_tells 145 32 M_9).1
  let M_10 := (f_X12_tells 145 32 M_9).2
  ((v_11), M_10))
theorem w_f_X12_curve_B1 (v2 : Int32) (ts : Nat) (M : mm_M) (q1 : Nat) : mm_fr2 [119, 117, 144, 132, 134, 133, 136, 140, 142, 135, 143, 139, 145, 141, 137, 138, 121, 146] M (f_X12_curve_B1 v2 ts M q1) := by
  unfold f_X12_curve_B1
  exact (mm_fr_ite2 (fun _ => ((w_f_X12_tells _ _ _).m.on (by simp) ((w_f_X12_curved _ _ _ _ _).on (by simp) ((w_f_X12_takes _ _).on (by simp) (mm_fr_refl _ _)))).b) (fun _ => ((w_f_X12_tells _ _ _).m.on (by simp) ((w_f_X12_curvedOwn _ _ _).on (by simp) (mm_fr_refl _ _))).b))
def f_X12_curve_B2 (v2 : Int32) (ts : Nat) (M : mm_M) (q1 : Nat) : Int32 × mm_M :=
  if 32 ≤ ts then (f_X12_curve_B1 v2 ts M q1) else (((-2 : Int32), M))
theorem w_f_X12_curve_B2 (v2 : Int32) (ts : Nat) (M : mm_M) (q1 : Nat) : mm_fr2 [119, 117, 144, 132, 134, 133, 136, 140, 142, 135, 143, 139, 145, 141, 137, 138, 121, 146] M (f_X12_curve_B2 v2 ts M q1) := by
  unfold f_X12_curve_B2
  exact (mm_fr_ite2 (fun _ => ((w_f_X12_curve_B1 _ _ _ _).on (by simp) (mm_fr_refl _ _))) (fun _ => (mm_fr_refl _ _).b))
def f_X12_curve_B3 (v2 : Int32) (ts : Nat) (M : mm_M) (q1 : Nat) : Int32 × mm_M :=
  if ¬ (v2) = (0 : Int32) then (f_X12_curve_B1 v2 ts M q1) else (f_X12_curve_B2 v2 ts M q1)
theorem w_f_X12_curve_B3 (v2 : Int32) (ts : Nat) (M : mm_M) (q1 : Nat) : mm_fr2 [119, 117, 144, 132, 134, 133, 136, 140, 142, 135, 143, 139, 145, 141, 137, 138, 121, 146] M (f_X12_curve_B3 v2 ts M q1) := by
  unfold f_X12_curve_B3
  exact (mm_fr_ite2 (fun _ => ((w_f_X12_curve_B1 _ _ _ _).on (by simp) (mm_fr_refl _ _))) (fun _ => ((w_f_X12_curve_B2 _ _ _ _).on (by simp) (mm_fr_refl _ _))))
def f_X12_curve (v1 : Int32) (v2 : Int32) (ts : Nat) (M : mm_M) : Int32 × mm_M :=
  if ¬ f_X12_isKey v1 = 0 then (let q1 := (v1).toNatClampNeg
  f_X12_curve_B3 v2 ts M q1) else (((-2 : Int32), M))
theorem w_f_X12_curve (v1 : Int32) (v2 : Int32) (ts : Nat) (M : mm_M) : mm_fr2 [119, 117, 144, 132, 134, 133, 136, 140, 142, 135, 143, 139, 145, 141, 137, 138, 121, 146] M (f_X12_curve v1 v2 ts M) := by
  unfold f_X12_curve
  exact (mm_fr_ite2 (fun _ => ((w_f_X12_curve_B3 _ _ _ _).on (by simp) (mm_fr_refl _ _))) (fun _ => (mm_fr_refl _ _).b))
set_option maxHeartbeats 4000000 in
set_option maxRecDepth 100000 in
theorem c_X12_curve (l : Launch) (D : va_G) (b0 : Nat) (r : Nat → Nat) (M : mm_M) (v1 : Int32) (v2 : Int32) (ts : Nat) (hts : ts ≤ 1000) (h1 : M.1 117 4 = nI ts) : mm_Mi l yX12_curve cX12_curve 3 .int 5 119 D b0 r [.ref (r (117)), .int (v1), .int (v2)] M (fun v M' => (v, M') = f_X12_curve v1 v2 ts M) := by
  refine mm_enter (cc := cX12_curve) (nL := 3) (ret := (some .int)) (by decide) (Nat.le_of_ble_eq_true rfl) ?_
  intro p e s m args below meth c C w ls hl
  have hl : lv_has ls 3 [(0, .ref (r (117))), (1, .int (v1)), (2, .int (v2))] := hl
  by_cases hS : ¬ f_X12_isKey v1 = 0
  · obtain ⟨q1, eq1⟩ : ∃ zz, zz = (v1).toNatClampNeg := ⟨_, rfl⟩
    obtain ⟨hvq1, hbq1⟩ : v1 = nI q1 ∧ q1 < 8 := by rw [eq1]; exact g_isKey2 hS
    rw [hvq1] at hl
    have hTq1 : ¬ f_X12_isKey (nI q1) = 0 := by rw [← hvq1]; exact hS
    refine lv_iload_n C.1 C.2.1 dX12_curve_0 rfl (lv_at hl 1 rfl) ?_
    refine m_csi C w hl csX12_377 (As := [.int (nI (q1))]) (rest := []) (c_X12_isKey l D b0 r M (nI (q1)) ) rfl rfl (Nat.le_of_ble_eq_true rfl) ⟨Nat.le_of_ble_eq_true rfl, Nat.le_of_ble_eq_true rfl⟩ ⟨Nat.zero_le _, Nat.zero_le _⟩ dX12_curve_1 (fun v_1 M9 H locs e9 w => ?_)
    obtain ⟨ev_1, e9⟩ := e9
    rw [e9] at w
    subst ev_1
    refine lv_if_eq (tgt := 20) C.1 C.2.1 dX12_curve_4 (by decide) (fun h_2 => absurd h_2 hTq1) (fun _ => ?_)
    refine lv_iload_n C.1 C.2.1 dX12_curve_7 rfl (lv_at hl 2 rfl) ?_
    refine lv_if_ne (tgt := 23) C.1 C.2.1 dX12_curve_8 (by decide) (fun h_3 => ?_) (fun h_3 => ?_)
    · refine lv_iload_n C.1 C.2.1 dX12_curve_23 rfl (lv_at hl 2 rfl) ?_
      refine lv_if_eq (tgt := 42) C.1 C.2.1 dX12_curve_24 (by decide) (fun h_4 => ?_) (fun h_4 => ?_)
      · refine lv_aload_n C.1 C.2.1 dX12_curve_42 rfl (lv_at hl 0 rfl) ?_
        refine m_cvv C w hl cvX12_381 (k := 117) (by decide) rfl (q := (RX12, TX12, 58)) rfl rfl (As := []) (rest := []) (c_X12_takes l D b0 r M ts (by omega) h1) rfl rfl (Nat.le_of_ble_eq_true rfl) ⟨Nat.le_of_ble_eq_true rfl, Nat.le_of_ble_eq_true rfl⟩ ⟨Nat.zero_le _, Nat.zero_le _⟩ dX12_curve_43 (fun M_5 H locs eM_5 w => ?_)
        refine lv_aload_n C.1 C.2.1 dX12_curve_46 rfl (lv_at hl 0 rfl) ?_
        refine lv_aload_n C.1 C.2.1 dX12_curve_47 rfl (lv_at hl 0 rfl) ?_
        refine m_get C w (k := 117) (j := 6) (v := .ref (r (122))) flX12_22 (by decide) rfl rfl dX12_curve_48 ?_
        refine lv_bipush (v := 32) C.1 C.2.1 dX12_curve_51 (by decide) ?_
        refine lv_iload_n C.1 C.2.1 dX12_curve_53 rfl (lv_at hl 1 rfl) ?_
        refine lv_imul C.1 C.2.1 dX12_curve_54 ?_
        refine m_i (y := nI (32 * q1)) (pk_mul 32 q1) ?_
        refine lv_aload_n C.1 C.2.1 dX12_curve_55 rfl (lv_at hl 0 rfl) ?_
        refine m_get C w (k := 117) (j := 1) (v := .ref (r (119))) flX12_13 (by decide) rfl rfl dX12_curve_56 ?_
        refine lv_iconst (v := 0) C.1 C.2.1 dX12_curve_59 (by decide) ?_
        refine m_cvv C w hl cvX12_322 (k := 117) (by decide) rfl (q := (RX12, TX12, 58)) rfl rfl (As := [.ref (r (122)), .int (nI (32 * q1)), .ref (r (119)), .int 0]) (rest := []) (c_X12_curved l D b0 r M_5 122 (32 * q1) 119 0 (by decide) rfl (by decide) (by omega) (by omega) (by decide) rfl (by decide) (by omega) (by omega)) rfl rfl (Nat.le_of_ble_eq_true rfl) ⟨Nat.le_of_ble_eq_true rfl, Nat.le_of_ble_eq_true rfl⟩ ⟨Nat.zero_le _, Nat.zero_le _⟩ dX12_curve_60 (fun M_6 H locs eM_6 w => ?_)
        refine lv_aload_n C.1 C.2.1 dX12_curve_63 rfl (lv_at hl 0 rfl) ?_
        refine lv_aload_n C.1 C.2.1 dX12_curve_64 rfl (lv_at hl 0 rfl) ?_
        refine m_get C w (k := 117) (j := 30) (v := .ref (r (145))) flX12_165 (by decide) rfl rfl dX12_curve_65 ?_
        refine lv_bipush (v := 32) C.1 C.2.1 dX12_curve_68 (by decide) ?_
        refine m_cvi C w hl cvX12_388 (k := 117) (by decide) rfl (q := (RX12, TX12, 58)) rfl rfl (As := [.ref (r (145)), .int 32]) (rest := []) (c_X12_tells l D b0 r M_6 145 32 (by decide) rfl (by decide) (by omega) (by omega) (by omega)) rfl rfl (Nat.le_of_ble_eq_true rfl) ⟨Nat.le_of_ble_eq_true rfl, Nat.le_of_ble_eq_true rfl⟩ ⟨Nat.zero_le _, Nat.zero_le _⟩ dX12_curve_70 (fun v_8 M_7 H locs e9 w => ?_)
        obtain ⟨ev_8, eM_7⟩ : v_8 = (f_X12_tells 145 32 M_6).1 ∧ M_7 = (f_X12_tells 145 32 M_6).2 := ⟨congrArg Prod.fst e9, congrArg Prod.snd e9⟩
        clear e9
        exact m_iret C w (by subst eq1 eM_5 eM_6 ev_8 eM_7; exact Eq.symm (((if_pos hS).trans ((if_pos h_3).trans ((if_pos h_4).trans rfl))))) dX12_curve_73
      · refine lv_aload_n C.1 C.2.1 dX12_curve_27 rfl (lv_at hl 0 rfl) ?_
        refine lv_aload_n C.1 C.2.1 dX12_curve_28 rfl (lv_at hl 0 rfl) ?_
        refine m_get C w (k := 117) (j := 6) (v := .ref (r (122))) flX12_22 (by decide) rfl rfl dX12_curve_29 ?_
        refine lv_bipush (v := 32) C.1 C.2.1 dX12_curve_32 (by decide) ?_
        refine lv_iload_n C.1 C.2.1 dX12_curve_34 rfl (lv_at hl 1 rfl) ?_
        refine lv_imul C.1 C.2.1 dX12_curve_35 ?_
        refine m_i (y := nI (32 * q1)) (pk_mul 32 q1) ?_
        refine m_cvv C w hl cvX12_384 (k := 117) (by decide) rfl (q := (RX12, TX12, 58)) rfl rfl (As := [.ref (r (122)), .int (nI (32 * q1))]) (rest := []) (c_X12_curvedOwn l D b0 r M 122 (32 * q1) (by decide) rfl (by decide) (by omega) (by omega)) rfl rfl (Nat.le_of_ble_eq_true rfl) ⟨Nat.le_of_ble_eq_true rfl, Nat.le_of_ble_eq_true rfl⟩ ⟨Nat.zero_le _, Nat.zero_le _⟩ dX12_curve_36 (fun M_9 H locs eM_9 w => ?_)
        refine lv_goto (tgt := 63) C.1 C.2.1 dX12_curve_39 (by decide) ?_
        refine lv_aload_n C.1 C.2.1 dX12_curve_63 rfl (lv_at hl 0 rfl) ?_
        refine lv_aload_n C.1 C.2.1 dX12_curve_64 rfl (lv_at hl 0 rfl) ?_
        refine m_get C w (k := 117) (j := 30) (v := .ref (r (145))) flX12_165 (by decide) rfl rfl dX12_curve_65 ?_
        refine lv_bipush (v := 32) C.1 C.2.1 dX12_curve_68 (by decide) ?_
        refine m_cvi C w hl cvX12_388 (k := 117) (by decide) rfl (q := (RX12, TX12, 58)) rfl rfl (As := [.ref (r (145)), .int 32]) (rest := []) (c_X12_tells l D b0 r M_9 145 32 (by decide) rfl (by decide) (by omega) (by omega) (by omega)) rfl rfl (Nat.le_of_ble_eq_true rfl) ⟨Nat.le_of_ble_eq_true rfl, Nat.le_of_ble_eq_true rfl⟩ ⟨Nat.zero_le _, Nat.zero_le _⟩ dX12_curve_70 (fun v_11 M_10 H locs e9 w => ?_)
        obtain ⟨ev_11, eM_10⟩ : v_11 = (f_X12_tells 145 32 M_9).1 ∧ M_10 = (f_X12_tells 145 32 M_9).2 := ⟨congrArg Prod.fst e9, congrArg Prod.snd e9⟩
        clear e9
        exact m_iret C w (by subst eq1 eM_9 ev_11 eM_10; exact Eq.symm (((if_pos hS).trans ((if_pos h_3).trans ((if_neg h_4).trans rfl))))) dX12_curve_73
    · refine lv_aload_n C.1 C.2.1 dX12_curve_11 rfl (lv_at hl 0 rfl) ?_
      refine m_get C w (k := 117) (j := 4) (v := .int (M.1 117 4)) flX12_364 (by decide) rfl rfl dX12_curve_12 ?_
      refine m_i (y := nI (ts)) h1 ?_
      refine lv_bipush (v := 32) C.1 C.2.1 dX12_curve_15 (by decide) ?_
      refine m_icmp_ge (tgt := 23) (a := ts) (b := 32) C (by omega) (by omega) dX12_curve_17 (by decide) (fun h_12 => ?_) (fun h_12 => ?_)
      · refine lv_iload_n C.1 C.2.1 dX12_curve_23 rfl (lv_at hl 2 rfl) ?_
        refine lv_if_eq (tgt := 42) C.1 C.2.1 dX12_curve_24 (by decide) (fun h_13 => ?_) (fun h_13 => ?_)
        · refine lv_aload_n C.1 C.2.1 dX12_curve_42 rfl (lv_at hl 0 rfl) ?_
          refine m_cvv C w hl cvX12_381 (k := 117) (by decide) rfl (q := (RX12, TX12, 58)) rfl rfl (As := []) (rest := []) (c_X12_takes l D b0 r M ts (by omega) h1) rfl rfl (Nat.le_of_ble_eq_true rfl) ⟨Nat.le_of_ble_eq_true rfl, Nat.le_of_ble_eq_true rfl⟩ ⟨Nat.zero_le _, Nat.zero_le _⟩ dX12_curve_43 (fun M_14 H locs eM_14 w => ?_)
          refine lv_aload_n C.1 C.2.1 dX12_curve_46 rfl (lv_at hl 0 rfl) ?_
          refine lv_aload_n C.1 C.2.1 dX12_curve_47 rfl (lv_at hl 0 rfl) ?_
          refine m_get C w (k := 117) (j := 6) (v := .ref (r (122))) flX12_22 (by decide) rfl rfl dX12_curve_48 ?_
          refine lv_bipush (v := 32) C.1 C.2.1 dX12_curve_51 (by decide) ?_
          refine lv_iload_n C.1 C.2.1 dX12_curve_53 rfl (lv_at hl 1 rfl) ?_
          refine lv_imul C.1 C.2.1 dX12_curve_54 ?_
          refine m_i (y := nI (32 * q1)) (pk_mul 32 q1) ?_
          refine lv_aload_n C.1 C.2.1 dX12_curve_55 rfl (lv_at hl 0 rfl) ?_
          refine m_get C w (k := 117) (j := 1) (v := .ref (r (119))) flX12_13 (by decide) rfl rfl dX12_curve_56 ?_
          refine lv_iconst (v := 0) C.1 C.2.1 dX12_curve_59 (by decide) ?_
          refine m_cvv C w hl cvX12_322 (k := 117) (by decide) rfl (q := (RX12, TX12, 58)) rfl rfl (As := [.ref (r (122)), .int (nI (32 * q1)), .ref (r (119)), .int 0]) (rest := []) (c_X12_curved l D b0 r M_14 122 (32 * q1) 119 0 (by decide) rfl (by decide) (by omega) (by omega) (by decide) rfl (by decide) (by omega) (by omega)) rfl rfl (Nat.le_of_ble_eq_true rfl) ⟨Nat.le_of_ble_eq_true rfl, Nat.le_of_ble_eq_true rfl⟩ ⟨Nat.zero_le _, Nat.zero_le _⟩ dX12_curve_60 (fun M_15 H locs eM_15 w => ?_)
          refine lv_aload_n C.1 C.2.1 dX12_curve_63 rfl (lv_at hl 0 rfl) ?_
          refine lv_aload_n C.1 C.2.1 dX12_curve_64 rfl (lv_at hl 0 rfl) ?_
          refine m_get C w (k := 117) (j := 30) (v := .ref (r (145))) flX12_165 (by decide) rfl rfl dX12_curve_65 ?_
          refine lv_bipush (v := 32) C.1 C.2.1 dX12_curve_68 (by decide) ?_
          refine m_cvi C w hl cvX12_388 (k := 117) (by decide) rfl (q := (RX12, TX12, 58)) rfl rfl (As := [.ref (r (145)), .int 32]) (rest := []) (c_X12_tells l D b0 r M_15 145 32 (by decide) rfl (by decide) (by omega) (by omega) (by omega)) rfl rfl (Nat.le_of_ble_eq_true rfl) ⟨Nat.le_of_ble_eq_true rfl, Nat.le_of_ble_eq_true rfl⟩ ⟨Nat.zero_le _, Nat.zero_le _⟩ dX12_curve_70 (fun v_17 M_16 H locs e9 w => ?_)
          obtain ⟨ev_17, eM_16⟩ : v_17 = (f_X12_tells 145 32 M_15).1 ∧ M_16 = (f_X12_tells 145 32 M_15).2 := ⟨congrArg Prod.fst e9, congrArg Prod.snd e9⟩
          clear e9
          exact m_iret C w (by subst eq1 eM_14 eM_15 ev_17 eM_16; exact Eq.symm (((if_pos hS).trans ((if_neg (fun q => q h_3)).trans ((if_pos h_12).trans ((if_pos h_13).trans rfl)))))) dX12_curve_73
        · refine lv_aload_n C.1 C.2.1 dX12_curve_27 rfl (lv_at hl 0 rfl) ?_
          refine lv_aload_n C.1 C.2.1 dX12_curve_28 rfl (lv_at hl 0 rfl) ?_
          refine m_get C w (k := 117) (j := 6) (v := .ref (r (122))) flX12_22 (by decide) rfl rfl dX12_curve_29 ?_
          refine lv_bipush (v := 32) C.1 C.2.1 dX12_curve_32 (by decide) ?_
          refine lv_iload_n C.1 C.2.1 dX12_curve_34 rfl (lv_at hl 1 rfl) ?_
          refine lv_imul C.1 C.2.1 dX12_curve_35 ?_
          refine m_i (y := nI (32 * q1)) (pk_mul 32 q1) ?_
          refine m_cvv C w hl cvX12_384 (k := 117) (by decide) rfl (q := (RX12, TX12, 58)) rfl rfl (As := [.ref (r (122)), .int (nI (32 * q1))]) (rest := []) (c_X12_curvedOwn l D b0 r M 122 (32 * q1) (by decide) rfl (by decide) (by omega) (by omega)) rfl rfl (Nat.le_of_ble_eq_true rfl) ⟨Nat.le_of_ble_eq_true rfl, Nat.le_of_ble_eq_true rfl⟩ ⟨Nat.zero_le _, Nat.zero_le _⟩ dX12_curve_36 (fun M_18 H locs eM_18 w => ?_)
          refine lv_goto (tgt := 63) C.1 C.2.1 dX12_curve_39 (by decide) ?_
          refine lv_aload_n C.1 C.2.1 dX12_curve_63 rfl (lv_at hl 0 rfl) ?_
          refine lv_aload_n C.1 C.2.1 dX12_curve_64 rfl (lv_at hl 0 rfl) ?_
          refine m_get C w (k := 117) (j := 30) (v := .ref (r (145))) flX12_165 (by decide) rfl rfl dX12_curve_65 ?_
          refine lv_bipush (v := 32) C.1 C.2.1 dX12_curve_68 (by decide) ?_
          refine m_cvi C w hl cvX12_388 (k := 117) (by decide) rfl (q := (RX12, TX12, 58)) rfl rfl (As := [.ref (r (145)), .int 32]) (rest := []) (c_X12_tells l D b0 r M_18 145 32 (by decide) rfl (by decide) (by omega) (by omega) (by omega)) rfl rfl (Nat.le_of_ble_eq_true rfl) ⟨Nat.le_of_ble_eq_true rfl, Nat.le_of_ble_eq_true rfl⟩ ⟨Nat.zero_le _, Nat.zero_le _⟩ dX12_curve_70 (fun v_20 M_19 H locs e9 w => ?_)
          obtain ⟨ev_20, eM_19⟩ : v_20 = (f_X12_tells 145 32 M_18).1 ∧ M_19 = (f_X12_tells 145 32 M_18).2 := ⟨congrArg Prod.fst e9, congrArg Prod.snd e9⟩
          clear e9
          exact m_iret C w (by subst eq1 eM_18 ev_20 eM_19; exact Eq.symm (((if_pos hS).trans ((if_neg (fun q => q h_3)).trans ((if_pos h_12).trans ((if_neg h_13).trans rfl)))))) dX12_curve_73
      · refine lv_bipush (v := (-2)) C.1 C.2.1 dX12_curve_20 (by decide) ?_
        exact m_iret C w (by subst eq1; exact Eq.symm (((if_pos hS).trans ((if_neg (fun q => q h_3)).trans ((if_neg (Nat.not_le.mpr h_12)).trans rfl))))) dX12_curve_22
  · refine lv_iload_n C.1 C.2.1 dX12_curve_0 rfl (lv_at hl 1 rfl) ?_
    refine m_csi C w hl csX12_377 (As := [.int (v1)]) (rest := []) (c_X12_isKey l D b0 r M (v1) ) rfl rfl (Nat.le_of_ble_eq_true rfl) ⟨Nat.le_of_ble_eq_true rfl, Nat.le_of_ble_eq_true rfl⟩ ⟨Nat.zero_le _, Nat.zero_le _⟩ dX12_curve_1 (fun v_21 M9 H locs e9 w => ?_)
    obtain ⟨ev_21, e9⟩ := e9
    rw [e9] at w
    subst ev_21
    refine lv_if_eq (tgt := 20) C.1 C.2.1 dX12_curve_4 (by decide) (fun _ => ?_) (fun h_22 => absurd h_22 (fun q => hS q))
    refine lv_bipush (v := (-2)) C.1 C.2.1 dX12_curve_20 (by decide) ?_
    exact m_iret C w (by exact Eq.symm (((if_neg hS).trans rfl))) dX12_curve_22

def f_X12_hash (v1 : Int32) (ts : Nat) (M : mm_M) : Int32 × mm_M :=
  if ¬ f_X12_in v1 0 (nI ts) = 0 then (let q1 := (v1).toNatClampNeg
  let M_3 := f_X12_takes ts M
  let M_4 := f_X12_start M_3
  let M_5 := f_X12_putRow 119 0 q1 0 M_4
  let M_6 := f_X12_sums (0 + q1) M_5
  let v_8 := (f_X12_tells 129 32 M_6).1
  let M_7 := (f_X12_tells 129 32 M_6).2
  ((v_8), M_7)) else (((-2 : Int32), M))
theorem w_f_X12_hash (v1 : Int32) (ts : Nat) (M : mm_M) : mm_fr2 [119, 117, 128, 129, 126, 127, 125, 121] M (f_X12_hash v1 ts M) := by
  unfold f_X12_hash
  exact (mm_fr_ite2 (fun _ => ((w_f_X12_tells _ _ _).m.on (by simp) ((w_f_X12_sums _ _).on (by simp) ((w_f_X12_putRow _ _ _ _ _).on (by simp) ((w_f_X12_start _).on (by simp) ((w_f_X12_takes _ _).on (by simp) (mm_fr_refl _ _)))))).b) (fun _ => (mm_fr_refl _ _).b))
set_option maxHeartbeats 4000000 in
set_option maxRecDepth 100000 in
theorem c_X12_hash (l : Launch) (D : va_G) (b0 : Nat) (r : Nat → Nat) (M : mm_M) (v1 : Int32) (ts : Nat) (hts : ts ≤ 1000) (h1 : M.1 117 4 = nI ts) : mm_Mi l yX12_hash cX12_hash 2 .int 3 68 D b0 r [.ref (r (117)), .int (v1)] M (fun v M' => (v, M') = f_X12_hash v1 ts M) := by
  refine mm_enter (cc := cX12_hash) (nL := 2) (ret := (some .int)) (by decide) (Nat.le_of_ble_eq_true rfl) ?_
  intro p e s m args below meth c C w ls hl
  have hl : lv_has ls 2 [(0, .ref (r (117))), (1, .int (v1))] := hl
  by_cases hS : ¬ f_X12_in v1 0 (nI ts) = 0
  · obtain ⟨q1, eq1⟩ : ∃ zz, zz = (v1).toNatClampNeg := ⟨_, rfl⟩
    obtain ⟨hvq1, hbq1⟩ : v1 = nI q1 ∧ q1 ≤ ts := by rw [eq1]; exact g_inN (by omega) hS
    rw [hvq1] at hl
    have hTq1 : ¬ f_X12_in (nI q1) 0 (nI ts) = 0 := by rw [← hvq1]; exact hS
    refine lv_iload_n C.1 C.2.1 dX12_hash_0 rfl (lv_at hl 1 rfl) ?_
    refine lv_iconst (v := 0) C.1 C.2.1 dX12_hash_1 (by decide) ?_
    refine lv_aload_n C.1 C.2.1 dX12_hash_2 rfl (lv_at hl 0 rfl) ?_
    refine m_get C w (k := 117) (j := 4) (v := .int (M.1 117 4)) flX12_364 (by decide) rfl rfl dX12_hash_3 ?_
    refine m_i (y := nI (ts)) h1 ?_
    refine m_csi C w hl csX12_373 (As := [.int (nI (q1)), .int 0, .int (nI (ts))]) (rest := []) (c_X12_in l D b0 r M (nI (q1)) (0 : Int32) (nI (ts)) ) rfl rfl (Nat.le_of_ble_eq_true rfl) ⟨Nat.le_of_ble_eq_true rfl, Nat.le_of_ble_eq_true rfl⟩ ⟨Nat.zero_le _, Nat.zero_le _⟩ dX12_hash_6 (fun v_1 M9 H locs e9 w => ?_)
    obtain ⟨ev_1, e9⟩ := e9
    rw [e9] at w
    subst ev_1
    refine lv_if_ne (tgt := 15) C.1 C.2.1 dX12_hash_9 (by decide) (fun _ => ?_) (fun h_2 => absurd h_2 hTq1)
    refine lv_aload_n C.1 C.2.1 dX12_hash_15 rfl (lv_at hl 0 rfl) ?_
    refine m_cvv C w hl cvX12_381 (k := 117) (by decide) rfl (q := (RX12, TX12, 58)) rfl rfl (As := []) (rest := []) (c_X12_takes l D b0 r M ts (by omega) h1) rfl rfl (Nat.le_of_ble_eq_true rfl) ⟨Nat.le_of_ble_eq_true rfl, Nat.le_of_ble_eq_true rfl⟩ ⟨Nat.zero_le _, Nat.zero_le _⟩ dX12_hash_16 (fun M_3 H locs eM_3 w => ?_)
    refine lv_aload_n C.1 C.2.1 dX12_hash_19 rfl (lv_at hl 0 rfl) ?_
    refine m_cvv C w hl cvX12_269 (k := 117) (by decide) rfl (q := (RX12, TX12, 58)) rfl rfl (As := []) (rest := []) (c_X12_start l D b0 r M_3  ) rfl rfl (Nat.le_of_ble_eq_true rfl) ⟨Nat.le_of_ble_eq_true rfl, Nat.le_of_ble_eq_true rfl⟩ ⟨Nat.zero_le _, Nat.zero_le _⟩ dX12_hash_20 (fun M_4 H locs eM_4 w => ?_)
    refine lv_aload_n C.1 C.2.1 dX12_hash_23 rfl (lv_at hl 0 rfl) ?_
    refine lv_aload_n C.1 C.2.1 dX12_hash_24 rfl (lv_at hl 0 rfl) ?_
    refine m_get C w (k := 117) (j := 1) (v := .ref (r (119))) flX12_13 (by decide) rfl rfl dX12_hash_25 ?_
    refine lv_iconst (v := 0) C.1 C.2.1 dX12_hash_28 (by decide) ?_
    refine lv_iload_n C.1 C.2.1 dX12_hash_29 rfl (lv_at hl 1 rfl) ?_
    refine m_cvv C w hl cvX12_272 (k := 117) (by decide) rfl (q := (RX12, TX12, 58)) rfl rfl (As := [.ref (r (119)), .int 0, .int (nI (q1))]) (rest := []) (c_X12_putRow l D b0 r M_4 119 0 q1 0 (by decide) rfl (by decide) (by omega) (by omega) (by omega) (by rw [eM_4]; exact r_X12_start _)) rfl rfl (Nat.le_of_ble_eq_true rfl) ⟨Nat.le_of_ble_eq_true rfl, Nat.le_of_ble_eq_true rfl⟩ ⟨Nat.zero_le _, Nat.zero_le _⟩ dX12_hash_30 (fun M_5 H locs eM_5 w => ?_)
    refine lv_aload_n C.1 C.2.1 dX12_hash_33 rfl (lv_at hl 0 rfl) ?_
    refine m_cvv C w hl cvX12_276 (k := 117) (by decide) rfl (q := (RX12, TX12, 58)) rfl rfl (As := []) (rest := []) (c_X12_sums l D b0 r M_5 (0 + q1) (by omega) (by rw [eM_5]; exact r_X12_putRow _ _ _ _ _ (by rw [eM_4]; exact r_X12_start _))) rfl rfl (Nat.le_of_ble_eq_true rfl) ⟨Nat.le_of_ble_eq_true rfl, Nat.le_of_ble_eq_true rfl⟩ ⟨Nat.zero_le _, Nat.zero_le _⟩ dX12_hash_34 (fun M_6 H locs eM_6 w => ?_)
    refine lv_aload_n C.1 C.2.1 dX12_hash_37 rfl (lv_at hl 0 rfl) ?_
    refine lv_aload_n C.1 C.2.1 dX12_hash_38 rfl (lv_at hl 0 rfl) ?_
    refine m_get C w (k := 117) (j := 13) (v := .ref (r (129))) flX12_116 (by decide) rfl rfl dX12_hash_39 ?_
    refine lv_bipush (v := 32) C.1 C.2.1 dX12_hash_42 (by decide) ?_
    refine m_cvi C w hl cvX12_388 (k := 117) (by decide) rfl (q := (RX12, TX12, 58)) rfl rfl (As := [.ref (r (129)), .int 32]) (rest := []) (c_X12_tells l D b0 r M_6 129 32 (by decide) rfl (by decide) (by omega) (by omega) (by omega)) rfl rfl (Nat.le_of_ble_eq_true rfl) ⟨Nat.le_of_ble_eq_true rfl, Nat.le_of_ble_eq_true rfl⟩ ⟨Nat.zero_le _, Nat.zero_le _⟩ dX12_hash_44 (fun v_8 M_7 H locs e9 w => ?_)
    obtain ⟨ev_8, eM_7⟩ : v_8 = (f_X12_tells 129 32 M_6).1 ∧ M_7 = (f_X12_tells 129 32 M_6).2 := ⟨congrArg Prod.fst e9, congrArg Prod.snd e9⟩
    clear e9
    exact m_iret C w (by subst eq1 eM_3 eM_4 eM_5 eM_6 ev_8 eM_7; exact Eq.symm (((if_pos hS).trans rfl))) dX12_hash_47
  · refine lv_iload_n C.1 C.2.1 dX12_hash_0 rfl (lv_at hl 1 rfl) ?_
    refine lv_iconst (v := 0) C.1 C.2.1 dX12_hash_1 (by decide) ?_
    refine lv_aload_n C.1 C.2.1 dX12_hash_2 rfl (lv_at hl 0 rfl) ?_
    refine m_get C w (k := 117) (j := 4) (v := .int (M.1 117 4)) flX12_364 (by decide) rfl rfl dX12_hash_3 ?_
    refine m_i (y := nI (ts)) h1 ?_
    refine m_csi C w hl csX12_373 (As := [.int (v1), .int 0, .int (nI (ts))]) (rest := []) (c_X12_in l D b0 r M (v1) (0 : Int32) (nI (ts)) ) rfl rfl (Nat.le_of_ble_eq_true rfl) ⟨Nat.le_of_ble_eq_true rfl, Nat.le_of_ble_eq_true rfl⟩ ⟨Nat.zero_le _, Nat.zero_le _⟩ dX12_hash_6 (fun v_9 M9 H locs e9 w => ?_)
    obtain ⟨ev_9, e9⟩ := e9
    rw [e9] at w
    subst ev_9
    refine lv_if_ne (tgt := 15) C.1 C.2.1 dX12_hash_9 (by decide) (fun h_10 => absurd h_10 (fun q => hS q)) (fun _ => ?_)
    refine lv_bipush (v := (-2)) C.1 C.2.1 dX12_hash_12 (by decide) ?_
    exact m_iret C w (by exact Eq.symm (((if_neg hS).trans rfl))) dX12_hash_14

def f_X12_mac (v1 : Int32) (v2 : Int32) (ts : Nat) (M : mm_M) : Int32 × mm_M :=
  if ¬ f_X12_isKey v1 = 0 ∧ ¬ f_X12_in v2 0 (nI ts) = 0 then (let q1 := (v1).toNatClampNeg
  let q2 := (v2).toNatClampNeg
  let M_5 := f_X12_takes ts M
  let M_6 := f_X12_macs 122 (32 * q1) 119 0 q2 M_5
  let v_8 := (f_X12_tells 129 32 M_6).1
  let M_7 := (f_X12_tells 129 32 M_6).2
  ((v_8), M_7)) else (if (f_X12_isKey (v1)) = (0 : Int32) then (((-2 : Int32), M)) else (((-2 : Int32), M)))
theorem w_f_X12_mac (v1 : Int32) (v2 : Int32) (ts : Nat) (M : mm_M) : mm_fr2 [119, 117, 130, 128, 129, 126, 127, 125, 131, 121] M (f_X12_mac v1 v2 ts M) := by
  unfold f_X12_mac
  exact (mm_fr_ite2 (fun _ => ((w_f_X12_tells _ _ _).m.on (by simp) ((w_f_X12_macs _ _ _ _ _ _).on (by simp) ((w_f_X12_takes _ _).on (by simp) (mm_fr_refl _ _)))).b) (fun _ => (mm_fr_ite2 (fun _ => (mm_fr_refl _ _).b) (fun _ => (mm_fr_refl _ _).b))))
set_option maxHeartbeats 4000000 in
set_option maxRecDepth 100000 in
theorem c_X12_mac (l : Launch) (D : va_G) (b0 : Nat) (r : Nat → Nat) (M : mm_M) (v1 : Int32) (v2 : Int32) (ts : Nat) (hts : ts ≤ 1000) (h1 : M.1 117 4 = nI ts) : mm_Mi l yX12_mac cX12_mac 3 .int 4 94 D b0 r [.ref (r (117)), .int (v1), .int (v2)] M (fun v M' => (v, M') = f_X12_mac v1 v2 ts M) := by
  refine mm_enter (cc := cX12_mac) (nL := 3) (ret := (some .int)) (by decide) (Nat.le_of_ble_eq_true rfl) ?_
  intro p e s m args below meth c C w ls hl
  have hl : lv_has ls 3 [(0, .ref (r (117))), (1, .int (v1)), (2, .int (v2))] := hl
  by_cases hS : ¬ f_X12_isKey v1 = 0 ∧ ¬ f_X12_in v2 0 (nI ts) = 0
  · obtain ⟨q1, eq1⟩ : ∃ zz, zz = (v1).toNatClampNeg := ⟨_, rfl⟩
    obtain ⟨hvq1, hbq1⟩ : v1 = nI q1 ∧ q1 < 8 := by rw [eq1]; exact g_isKey2 hS.1
    rw [hvq1] at hl
    obtain ⟨q2, eq2⟩ : ∃ zz, zz = (v2).toNatClampNeg := ⟨_, rfl⟩
    obtain ⟨hvq2, hbq2⟩ : v2 = nI q2 ∧ q2 ≤ ts := by rw [eq2]; exact g_inN (by omega) hS.2
    rw [hvq2] at hl
    have hTq1 : ¬ f_X12_isKey (nI q1) = 0 := by rw [← hvq1]; exact hS.1
    have hTq2 : ¬ f_X12_in (nI q2) 0 (nI ts) = 0 := by rw [← hvq2]; exact hS.2
    refine lv_iload_n C.1 C.2.1 dX12_mac_0 rfl (lv_at hl 1 rfl) ?_
    refine m_csi C w hl csX12_377 (As := [.int (nI (q1))]) (rest := []) (c_X12_isKey l D b0 r M (nI (q1)) ) rfl rfl (Nat.le_of_ble_eq_true rfl) ⟨Nat.le_of_ble_eq_true rfl, Nat.le_of_ble_eq_true rfl⟩ ⟨Nat.zero_le _, Nat.zero_le _⟩ dX12_mac_1 (fun v_1 M9 H locs e9 w => ?_)
    obtain ⟨ev_1, e9⟩ := e9
    rw [e9] at w
    subst ev_1
    refine lv_if_eq (tgt := 19) C.1 C.2.1 dX12_mac_4 (by decide) (fun h_2 => absurd h_2 hTq1) (fun _ => ?_)
    refine lv_iload_n C.1 C.2.1 dX12_mac_7 rfl (lv_at hl 2 rfl) ?_
    refine lv_iconst (v := 0) C.1 C.2.1 dX12_mac_8 (by decide) ?_
    refine lv_aload_n C.1 C.2.1 dX12_mac_9 rfl (lv_at hl 0 rfl) ?_
    refine m_get C w (k := 117) (j := 4) (v := .int (M.1 117 4)) flX12_364 (by decide) rfl rfl dX12_mac_10 ?_
    refine m_i (y := nI (ts)) h1 ?_
    refine m_csi C w hl csX12_373 (As := [.int (nI (q2)), .int 0, .int (nI (ts))]) (rest := []) (c_X12_in l D b0 r M (nI (q2)) (0 : Int32) (nI (ts)) ) rfl rfl (Nat.le_of_ble_eq_true rfl) ⟨Nat.le_of_ble_eq_true rfl, Nat.le_of_ble_eq_true rfl⟩ ⟨Nat.zero_le _, Nat.zero_le _⟩ dX12_mac_13 (fun v_3 M9 H locs e9 w => ?_)
    obtain ⟨ev_3, e9⟩ := e9
    rw [e9] at w
    subst ev_3
    refine lv_if_ne (tgt := 22) C.1 C.2.1 dX12_mac_16 (by decide) (fun _ => ?_) (fun h_4 => absurd h_4 hTq2)
    refine lv_aload_n C.1 C.2.1 dX12_mac_22 rfl (lv_at hl 0 rfl) ?_
    refine m_cvv C w hl cvX12_381 (k := 117) (by decide) rfl (q := (RX12, TX12, 58)) rfl rfl (As := []) (rest := []) (c_X12_takes l D b0 r M ts (by omega) h1) rfl rfl (Nat.le_of_ble_eq_true rfl) ⟨Nat.le_of_ble_eq_true rfl, Nat.le_of_ble_eq_true rfl⟩ ⟨Nat.zero_le _, Nat.zero_le _⟩ dX12_mac_23 (fun M_5 H locs eM_5 w => ?_)
    refine lv_aload_n C.1 C.2.1 dX12_mac_26 rfl (lv_at hl 0 rfl) ?_
    refine lv_aload_n C.1 C.2.1 dX12_mac_27 rfl (lv_at hl 0 rfl) ?_
    refine m_get C w (k := 117) (j := 6) (v := .ref (r (122))) flX12_22 (by decide) rfl rfl dX12_mac_28 ?_
    refine lv_bipush (v := 32) C.1 C.2.1 dX12_mac_31 (by decide) ?_
    refine lv_iload_n C.1 C.2.1 dX12_mac_33 rfl (lv_at hl 1 rfl) ?_
    refine lv_imul C.1 C.2.1 dX12_mac_34 ?_
    refine m_i (y := nI (32 * q1)) (pk_mul 32 q1) ?_
    refine lv_aload_n C.1 C.2.1 dX12_mac_35 rfl (lv_at hl 0 rfl) ?_
    refine m_get C w (k := 117) (j := 1) (v := .ref (r (119))) flX12_13 (by decide) rfl rfl dX12_mac_36 ?_
    refine lv_iconst (v := 0) C.1 C.2.1 dX12_mac_39 (by decide) ?_
    refine lv_iload_n C.1 C.2.1 dX12_mac_40 rfl (lv_at hl 2 rfl) ?_
    refine m_cvv C w hl cvX12_391 (k := 117) (by decide) rfl (q := (RX12, TX12, 58)) rfl rfl (As := [.ref (r (122)), .int (nI (32 * q1)), .ref (r (119)), .int 0, .int (nI (q2))]) (rest := []) (c_X12_macs l D b0 r M_5 122 (32 * q1) 119 0 q2 (by decide) rfl (by decide) (by omega) (by omega) (by decide) rfl (by decide) (by omega) (by omega) (by omega)) rfl rfl (Nat.le_of_ble_eq_true rfl) ⟨Nat.le_of_ble_eq_true rfl, Nat.le_of_ble_eq_true rfl⟩ ⟨Nat.zero_le _, Nat.zero_le _⟩ dX12_mac_41 (fun M_6 H locs eM_6 w => ?_)
    refine lv_aload_n C.1 C.2.1 dX12_mac_44 rfl (lv_at hl 0 rfl) ?_
    refine lv_aload_n C.1 C.2.1 dX12_mac_45 rfl (lv_at hl 0 rfl) ?_
    refine m_get C w (k := 117) (j := 13) (v := .ref (r (129))) flX12_116 (by decide) rfl rfl dX12_mac_46 ?_
    refine lv_bipush (v := 32) C.1 C.2.1 dX12_mac_49 (by decide) ?_
    refine m_cvi C w hl cvX12_388 (k := 117) (by decide) rfl (q := (RX12, TX12, 58)) rfl rfl (As := [.ref (r (129)), .int 32]) (rest := []) (c_X12_tells l D b0 r M_6 129 32 (by decide) rfl (by decide) (by omega) (by omega) (by omega)) rfl rfl (Nat.le_of_ble_eq_true rfl) ⟨Nat.le_of_ble_eq_true rfl, Nat.le_of_ble_eq_true rfl⟩ ⟨Nat.zero_le _, Nat.zero_le _⟩ dX12_mac_51 (fun v_8 M_7 H locs e9 w => ?_)
    obtain ⟨ev_8, eM_7⟩ : v_8 = (f_X12_tells 129 32 M_6).1 ∧ M_7 = (f_X12_tells 129 32 M_6).2 := ⟨congrArg Prod.fst e9, congrArg Prod.snd e9⟩
    clear e9
    exact m_iret C w (by subst eq1 eq2 eM_5 eM_6 ev_8 eM_7; exact Eq.symm (((if_pos hS).trans rfl))) dX12_mac_54
  · refine lv_iload_n C.1 C.2.1 dX12_mac_0 rfl (lv_at hl 1 rfl) ?_
    refine m_csi C w hl csX12_377 (As := [.int (v1)]) (rest := []) (c_X12_isKey l D b0 r M (v1) ) rfl rfl (Nat.le_of_ble_eq_true rfl) ⟨Nat.le_of_ble_eq_true rfl, Nat.le_of_ble_eq_true rfl⟩ ⟨Nat.zero_le _, Nat.zero_le _⟩ dX12_mac_1 (fun v_9 M9 H locs e9 w => ?_)
    obtain ⟨ev_9, e9⟩ := e9
    rw [e9] at w
    subst ev_9
    refine lv_if_eq (tgt := 19) C.1 C.2.1 dX12_mac_4 (by decide) (fun h_10 => ?_) (fun h_10 => ?_)
    · refine lv_bipush (v := (-2)) C.1 C.2.1 dX12_mac_19 (by decide) ?_
      exact m_iret C w (by exact Eq.symm (((if_neg hS).trans ((if_pos h_10).trans rfl)))) dX12_mac_21
    · refine lv_iload_n C.1 C.2.1 dX12_mac_7 rfl (lv_at hl 2 rfl) ?_
      refine lv_iconst (v := 0) C.1 C.2.1 dX12_mac_8 (by decide) ?_
      refine lv_aload_n C.1 C.2.1 dX12_mac_9 rfl (lv_at hl 0 rfl) ?_
      refine m_get C w (k := 117) (j := 4) (v := .int (M.1 117 4)) flX12_364 (by decide) rfl rfl dX12_mac_10 ?_
      refine m_i (y := nI (ts)) h1 ?_
      refine m_csi C w hl csX12_373 (As := [.int (v2), .int 0, .int (nI (ts))]) (rest := []) (c_X12_in l D b0 r M (v2) (0 : Int32) (nI (ts)) ) rfl rfl (Nat.le_of_ble_eq_true rfl) ⟨Nat.le_of_ble_eq_true rfl, Nat.le_of_ble_eq_true rfl⟩ ⟨Nat.zero_le _, Nat.zero_le _⟩ dX12_mac_13 (fun v_11 M9 H locs e9 w => ?_)
      obtain ⟨ev_11, e9⟩ := e9
      rw [e9] at w
      subst ev_11
      refine lv_if_ne (tgt := 22) C.1 C.2.1 dX12_mac_16 (by decide) (fun h_12 => absurd h_12 (fun q => hS ⟨h_10, q⟩)) (fun _ => ?_)
      refine lv_bipush (v := (-2)) C.1 C.2.1 dX12_mac_19 (by decide) ?_
      exact m_iret C w (by exact Eq.symm (((if_neg hS).trans ((if_neg h_10).trans rfl)))) dX12_mac_21

theorem g_sealX {v2 v3 : Int32} {ts : Nat} (hts : ts ≤ 1000) (ha : ¬ f_X12_in v2 0 (nI ts) = 0) (hb : ¬ f_X12_in v3 0 984 = 0) (h : v3 ≤ nI ts - v2) : v3 = nI v3.toNatClampNeg ∧ v2.toNatClampNeg + v3.toNatClampNeg ≤ ts ∧ v3.toNatClampNeg ≤ 984 := by
  obtain ⟨e2, b2⟩ := g_inN (by omega) ha
  obtain ⟨e3, b3⟩ := g_inN (n := 984) (by omega) hb
  generalize v2.toNatClampNeg = q2 at *
  generalize v3.toNatClampNeg = q3 at *
  subst e2 e3
  rw [pk_sub (by omega)] at h
  have := (nI_leI (by omega) (by omega)).mp h
  exact ⟨rfl, by omega, b3⟩
theorem g_openX {v2 v3 : Int32} {ts : Nat} (hts : ts ≤ 1000) (ha : ¬ f_X12_in v2 0 (nI ts) = 0) (hb : ¬ f_X12_in v3 0 (nI ts - v2) = 0) : v3 = nI v3.toNatClampNeg ∧ v2.toNatClampNeg + v3.toNatClampNeg ≤ ts := by
  obtain ⟨e2, b2⟩ := g_inN (by omega) ha
  generalize v2.toNatClampNeg = q2 at *
  subst e2
  rw [pk_sub (by omega)] at hb
  obtain ⟨e3, b3⟩ := g_inN (by omega) hb
  exact ⟨e3, by omega⟩

theorem r_X12_opens {k1 p1 : Nat} {u1 : Int64} {k2 p2 p3 k3 p4 p5 k4 p6 : Nat} {M : mm_M} (h : ¬ (f_X12_opens k1 p1 u1 k2 p2 p3 k3 p4 p5 k4 p6 M).1 = 0) : 16 ≤ p5 := by
  by_cases q : 16 ≤ p5
  · exact q
  · unfold f_X12_opens at h
    rw [if_neg q] at h
    exact absurd rfl h

def f_X12_seal (v1 : Int32) (u1 : Int64) (v2 : Int32) (v3 : Int32) (ts : Nat) (M : mm_M) : Int32 × mm_M :=
  if ¬ f_X12_isKey v1 = 0 ∧ ¬ f_X12_in v2 0 (nI ts) = 0 ∧ ¬ f_X12_in v3 0 984 = 0 ∧ v3 ≤ nI ts - v2 then (let q1 := (v1).toNatClampNeg
  let q2 := (v2).toNatClampNeg
  let q3 := (v3).toNatClampNeg
  let M_8 := f_X12_takes ts M
  let M_9 := f_X12_seals 122 (32 * q1) (u1) 119 0 q2 119 q2 q3 120 0 M_8
  let v_11 := (f_X12_tells 120 (q3 + 16) M_9).1
  let M_10 := (f_X12_tells 120 (q3 + 16) M_9).2
  ((v_11), M_10)) else (if (f_X12_isKey (v1)) = (0 : Int32) then (((-2 : Int32), M)) else (if (f_X12_in (v2) (0 : Int32) (nI (ts))) = (0 : Int32) then (((-2 : Int32), M)) else (if (f_X12_in (v3) (0 : Int32) (984 : Int32)) = (0 : Int32) then (((-2 : Int32), M)) else (((-2 : Int32), M)))))
theorem w_f_X12_seal (v1 : Int32) (u1 : Int64) (v2 : Int32) (v3 : Int32) (ts : Nat) (M : mm_M) : mm_fr2 [119, 117, 120, 147, 149, 148, 155, 151, 150, 152, 153, 156, 154, 121] M (f_X12_seal v1 u1 v2 v3 ts M) := by
  unfold f_X12_seal
  exact (mm_fr_ite2 (fun _ => ((w_f_X12_tells _ _ _).m.on (by simp) ((w_f_X12_seals _ _ _ _ _ _ _ _ _ _ _ _).on (by simp) ((w_f_X12_takes _ _).on (by simp) (mm_fr_refl _ _)))).b) (fun _ => (mm_fr_ite2 (fun _ => (mm_fr_refl _ _).b) (fun _ => (mm_fr_ite2 (fun _ => (mm_fr_refl _ _).b) (fun _ => (mm_fr_ite2 (fun _ => (mm_fr_refl _ _).b) (fun _ => (mm_fr_refl _ _).b))))))))
set_option maxHeartbeats 4000000 in
set_option maxRecDepth 100000 in
theorem c_X12_seal (l : Launch) (D : va_G) (b0 : Nat) (r : Nat → Nat) (M : mm_M) (v1 : Int32) (u1 : Int64) (v2 : Int32) (v3 : Int32) (ts : Nat) (hts : ts ≤ 1000) (h1 : M.1 117 4 = nI ts) : mm_Mi l yX12_seal cX12_seal 6 .int 5 134 D b0 r [.ref (r (117)), .int (v1), .long (u1), .int (v2), .int (v3)] M (fun v M' => (v, M') = f_X12_seal v1 u1 v2 v3 ts M) := by
  refine mm_enter (cc := cX12_seal) (nL := 6) (ret := (some .int)) (by decide) (Nat.le_of_ble_eq_true rfl) ?_
  intro p e s m args below meth c C w ls hl
  have hl : lv_has ls 6 [(0, .ref (r (117))), (1, .int (v1)), (2, .long (u1)), (4, .int (v2)), (5, .int (v3))] := hl
  by_cases hS : ¬ f_X12_isKey v1 = 0 ∧ ¬ f_X12_in v2 0 (nI ts) = 0 ∧ ¬ f_X12_in v3 0 984 = 0 ∧ v3 ≤ nI ts - v2
  · obtain ⟨q1, eq1⟩ : ∃ zz, zz = (v1).toNatClampNeg := ⟨_, rfl⟩
    obtain ⟨hvq1, hbq1⟩ : v1 = nI q1 ∧ q1 < 8 := by rw [eq1]; exact g_isKey2 hS.1
    rw [hvq1] at hl
    obtain ⟨q2, eq2⟩ : ∃ zz, zz = (v2).toNatClampNeg := ⟨_, rfl⟩
    obtain ⟨hvq2, hbq2⟩ : v2 = nI q2 ∧ q2 ≤ ts := by rw [eq2]; exact g_inN (by omega) hS.2.1
    rw [hvq2] at hl
    obtain ⟨q3, eq3⟩ : ∃ zz, zz = (v3).toNatClampNeg := ⟨_, rfl⟩
    obtain ⟨hvq3, hbq3⟩ : v3 = nI q3 ∧ v2.toNatClampNeg + q3 ≤ ts ∧ q3 ≤ 984 := by rw [eq3]; exact g_sealX hts hS.2.1 hS.2.2.1 hS.2.2.2
    rw [hvq3] at hl
    have hTq1 : ¬ f_X12_isKey (nI q1) = 0 := by rw [← hvq1]; exact hS.1
    have hTq2 : ¬ f_X12_in (nI q2) 0 (nI ts) = 0 := by rw [← hvq2]; exact hS.2.1
    have hTq3 : ¬ f_X12_in (nI q3) 0 984 = 0 := by rw [← hvq3]; exact hS.2.2.1
    rw [← eq2] at hbq3
    obtain ⟨hb3a, hb3b⟩ := hbq3
    refine lv_iload_n C.1 C.2.1 dX12_seal_0 rfl (lv_at hl 1 rfl) ?_
    refine m_csi C w hl csX12_377 (As := [.int (nI (q1))]) (rest := []) (c_X12_isKey l D b0 r M (nI (q1)) ) rfl rfl (Nat.le_of_ble_eq_true rfl) ⟨Nat.le_of_ble_eq_true rfl, Nat.le_of_ble_eq_true rfl⟩ ⟨Nat.zero_le _, Nat.zero_le _⟩ dX12_seal_1 (fun v_1 M9 H locs e9 w => ?_)
    obtain ⟨ev_1, e9⟩ := e9
    rw [e9] at w
    subst ev_1
    refine lv_if_eq (tgt := 44) C.1 C.2.1 dX12_seal_4 (by decide) (fun h_2 => absurd h_2 hTq1) (fun _ => ?_)
    refine lv_iload C.1 C.2.1 dX12_seal_7 (lv_at hl 3 rfl) ?_
    refine lv_iconst (v := 0) C.1 C.2.1 dX12_seal_9 (by decide) ?_
    refine lv_aload_n C.1 C.2.1 dX12_seal_10 rfl (lv_at hl 0 rfl) ?_
    refine m_get C w (k := 117) (j := 4) (v := .int (M.1 117 4)) flX12_364 (by decide) rfl rfl dX12_seal_11 ?_
    refine m_i (y := nI (ts)) h1 ?_
    refine m_csi C w hl csX12_373 (As := [.int (nI (q2)), .int 0, .int (nI (ts))]) (rest := []) (c_X12_in l D b0 r M (nI (q2)) (0 : Int32) (nI (ts)) ) rfl rfl (Nat.le_of_ble_eq_true rfl) ⟨Nat.le_of_ble_eq_true rfl, Nat.le_of_ble_eq_true rfl⟩ ⟨Nat.zero_le _, Nat.zero_le _⟩ dX12_seal_14 (fun v_3 M9 H locs e9 w => ?_)
    obtain ⟨ev_3, e9⟩ := e9
    rw [e9] at w
    subst ev_3
    refine lv_if_eq (tgt := 44) C.1 C.2.1 dX12_seal_17 (by decide) (fun h_4 => absurd h_4 hTq2) (fun _ => ?_)
    refine lv_iload C.1 C.2.1 dX12_seal_20 (lv_at hl 4 rfl) ?_
    refine lv_iconst (v := 0) C.1 C.2.1 dX12_seal_22 (by decide) ?_
    refine lv_sipush (v := 984) C.1 C.2.1 dX12_seal_23 (by decide) ?_
    refine m_csi C w hl csX12_373 (As := [.int (nI (q3)), .int 0, .int 984]) (rest := []) (c_X12_in l D b0 r M (nI (q3)) (0 : Int32) (984 : Int32) ) rfl rfl (Nat.le_of_ble_eq_true rfl) ⟨Nat.le_of_ble_eq_true rfl, Nat.le_of_ble_eq_true rfl⟩ ⟨Nat.zero_le _, Nat.zero_le _⟩ dX12_seal_26 (fun v_5 M9 H locs e9 w => ?_)
    obtain ⟨ev_5, e9⟩ := e9
    rw [e9] at w
    subst ev_5
    refine lv_if_eq (tgt := 44) C.1 C.2.1 dX12_seal_29 (by decide) (fun h_6 => absurd h_6 hTq3) (fun _ => ?_)
    refine lv_iload C.1 C.2.1 dX12_seal_32 (lv_at hl 4 rfl) ?_
    refine lv_aload_n C.1 C.2.1 dX12_seal_34 rfl (lv_at hl 0 rfl) ?_
    refine m_get C w (k := 117) (j := 4) (v := .int (M.1 117 4)) flX12_364 (by decide) rfl rfl dX12_seal_35 ?_
    refine m_i (y := nI (ts)) h1 ?_
    refine lv_iload C.1 C.2.1 dX12_seal_38 (lv_at hl 3 rfl) ?_
    refine lv_isub C.1 C.2.1 dX12_seal_40 ?_
    refine m_i (y := nI (ts - q2)) (pk_sub (a := ts) (b := q2) (by omega)) ?_
    refine m_icmp_le (tgt := 47) (a := q3) (b := ts - q2) C (by omega) (by omega) dX12_seal_41 (by decide) (fun _ => ?_) (fun h_7 => absurd h_7 (by omega))
    refine lv_aload_n C.1 C.2.1 dX12_seal_47 rfl (lv_at hl 0 rfl) ?_
    refine m_cvv C w hl cvX12_381 (k := 117) (by decide) rfl (q := (RX12, TX12, 58)) rfl rfl (As := []) (rest := []) (c_X12_takes l D b0 r M ts (by omega) h1) rfl rfl (Nat.le_of_ble_eq_true rfl) ⟨Nat.le_of_ble_eq_true rfl, Nat.le_of_ble_eq_true rfl⟩ ⟨Nat.zero_le _, Nat.zero_le _⟩ dX12_seal_48 (fun M_8 H locs eM_8 w => ?_)
    refine lv_aload_n C.1 C.2.1 dX12_seal_51 rfl (lv_at hl 0 rfl) ?_
    refine lv_aload_n C.1 C.2.1 dX12_seal_52 rfl (lv_at hl 0 rfl) ?_
    refine m_get C w (k := 117) (j := 6) (v := .ref (r (122))) flX12_22 (by decide) rfl rfl dX12_seal_53 ?_
    refine lv_bipush (v := 32) C.1 C.2.1 dX12_seal_56 (by decide) ?_
    refine lv_iload_n C.1 C.2.1 dX12_seal_58 rfl (lv_at hl 1 rfl) ?_
    refine lv_imul C.1 C.2.1 dX12_seal_59 ?_
    refine m_i (y := nI (32 * q1)) (pk_mul 32 q1) ?_
    refine lv_lload_n C.1 C.2.1 dX12_seal_60 rfl (lv_at hl 2 rfl) ?_
    refine lv_aload_n C.1 C.2.1 dX12_seal_61 rfl (lv_at hl 0 rfl) ?_
    refine m_get C w (k := 117) (j := 1) (v := .ref (r (119))) flX12_13 (by decide) rfl rfl dX12_seal_62 ?_
    refine lv_iconst (v := 0) C.1 C.2.1 dX12_seal_65 (by decide) ?_
    refine lv_iload C.1 C.2.1 dX12_seal_66 (lv_at hl 3 rfl) ?_
    refine lv_aload_n C.1 C.2.1 dX12_seal_68 rfl (lv_at hl 0 rfl) ?_
    refine m_get C w (k := 117) (j := 1) (v := .ref (r (119))) flX12_13 (by decide) rfl rfl dX12_seal_69 ?_
    refine lv_iload C.1 C.2.1 dX12_seal_72 (lv_at hl 3 rfl) ?_
    refine lv_iload C.1 C.2.1 dX12_seal_74 (lv_at hl 4 rfl) ?_
    refine lv_aload_n C.1 C.2.1 dX12_seal_76 rfl (lv_at hl 0 rfl) ?_
    refine m_get C w (k := 117) (j := 2) (v := .ref (r (120))) flX12_16 (by decide) rfl rfl dX12_seal_77 ?_
    refine lv_iconst (v := 0) C.1 C.2.1 dX12_seal_80 (by decide) ?_
    refine m_cvv C w hl cvX12_394 (k := 117) (by decide) rfl (q := (RX12, TX12, 58)) rfl rfl (As := [.ref (r (122)), .int (nI (32 * q1)), .long (u1), .ref (r (119)), .int 0, .int (nI (q2)), .ref (r (119)), .int (nI (q2)), .int (nI (q3)), .ref (r (120)), .int 0]) (rest := []) (c_X12_seals l D b0 r M_8 122 (32 * q1) (u1) 119 0 q2 119 q2 q3 120 0 (by decide) rfl (by decide) (by omega) (by omega) (by decide) rfl (by decide) (by omega) (by omega) (by decide) rfl (by decide) (by omega) (by omega) (by decide) rfl (by decide) (by omega) (by omega)) rfl rfl (Nat.le_of_ble_eq_true rfl) ⟨Nat.le_of_ble_eq_true rfl, Nat.le_of_ble_eq_true rfl⟩ ⟨Nat.zero_le _, Nat.zero_le _⟩ dX12_seal_81 (fun M_9 H locs eM_9 w => ?_)
    refine lv_aload_n C.1 C.2.1 dX12_seal_84 rfl (lv_at hl 0 rfl) ?_
    refine lv_aload_n C.1 C.2.1 dX12_seal_85 rfl (lv_at hl 0 rfl) ?_
    refine m_get C w (k := 117) (j := 2) (v := .ref (r (120))) flX12_16 (by decide) rfl rfl dX12_seal_86 ?_
    refine lv_iload C.1 C.2.1 dX12_seal_89 (lv_at hl 4 rfl) ?_
    refine lv_bipush (v := 16) C.1 C.2.1 dX12_seal_91 (by decide) ?_
    refine lv_iadd C.1 C.2.1 dX12_seal_93 ?_
    refine m_i (y := nI (q3 + 16)) (nI_add q3 16) ?_
    refine m_cvi C w hl cvX12_388 (k := 117) (by decide) rfl (q := (RX12, TX12, 58)) rfl rfl (As := [.ref (r (120)), .int (nI (q3 + 16))]) (rest := []) (c_X12_tells l D b0 r M_9 120 (q3 + 16) (by decide) rfl (by decide) (by omega) (by omega) (by omega)) rfl rfl (Nat.le_of_ble_eq_true rfl) ⟨Nat.le_of_ble_eq_true rfl, Nat.le_of_ble_eq_true rfl⟩ ⟨Nat.zero_le _, Nat.zero_le _⟩ dX12_seal_94 (fun v_11 M_10 H locs e9 w => ?_)
    obtain ⟨ev_11, eM_10⟩ : v_11 = (f_X12_tells 120 (q3 + 16) M_9).1 ∧ M_10 = (f_X12_tells 120 (q3 + 16) M_9).2 := ⟨congrArg Prod.fst e9, congrArg Prod.snd e9⟩
    clear e9
    exact m_iret C w (by subst eq1 eq2 eq3 eM_8 eM_9 ev_11 eM_10; exact Eq.symm (((if_pos hS).trans rfl))) dX12_seal_97
  · refine lv_iload_n C.1 C.2.1 dX12_seal_0 rfl (lv_at hl 1 rfl) ?_
    refine m_csi C w hl csX12_377 (As := [.int (v1)]) (rest := []) (c_X12_isKey l D b0 r M (v1) ) rfl rfl (Nat.le_of_ble_eq_true rfl) ⟨Nat.le_of_ble_eq_true rfl, Nat.le_of_ble_eq_true rfl⟩ ⟨Nat.zero_le _, Nat.zero_le _⟩ dX12_seal_1 (fun v_12 M9 H locs e9 w => ?_)
    obtain ⟨ev_12, e9⟩ := e9
    rw [e9] at w
    subst ev_12
    refine lv_if_eq (tgt := 44) C.1 C.2.1 dX12_seal_4 (by decide) (fun h_13 => ?_) (fun h_13 => ?_)
    · refine lv_bipush (v := (-2)) C.1 C.2.1 dX12_seal_44 (by decide) ?_
      exact m_iret C w (by exact Eq.symm (((if_neg hS).trans ((if_pos h_13).trans rfl)))) dX12_seal_46
    · refine lv_iload C.1 C.2.1 dX12_seal_7 (lv_at hl 3 rfl) ?_
      refine lv_iconst (v := 0) C.1 C.2.1 dX12_seal_9 (by decide) ?_
      refine lv_aload_n C.1 C.2.1 dX12_seal_10 rfl (lv_at hl 0 rfl) ?_
      refine m_get C w (k := 117) (j := 4) (v := .int (M.1 117 4)) flX12_364 (by decide) rfl rfl dX12_seal_11 ?_
      refine m_i (y := nI (ts)) h1 ?_
      refine m_csi C w hl csX12_373 (As := [.int (v2), .int 0, .int (nI (ts))]) (rest := []) (c_X12_in l D b0 r M (v2) (0 : Int32) (nI (ts)) ) rfl rfl (Nat.le_of_ble_eq_true rfl) ⟨Nat.le_of_ble_eq_true rfl, Nat.le_of_ble_eq_true rfl⟩ ⟨Nat.zero_le _, Nat.zero_le _⟩ dX12_seal_14 (fun v_14 M9 H locs e9 w => ?_)
      obtain ⟨ev_14, e9⟩ := e9
      rw [e9] at w
      subst ev_14
      refine lv_if_eq (tgt := 44) C.1 C.2.1 dX12_seal_17 (by decide) (fun h_15 => ?_) (fun h_15 => ?_)
      · refine lv_bipush (v := (-2)) C.1 C.2.1 dX12_seal_44 (by decide) ?_
        exact m_iret C w (by exact Eq.symm (((if_neg hS).trans ((if_neg h_13).trans ((if_pos h_15).trans rfl))))) dX12_seal_46
      · refine lv_iload C.1 C.2.1 dX12_seal_20 (lv_at hl 4 rfl) ?_
        refine lv_iconst (v := 0) C.1 C.2.1 dX12_seal_22 (by decide) ?_
        refine lv_sipush (v := 984) C.1 C.2.1 dX12_seal_23 (by decide) ?_
        refine m_csi C w hl csX12_373 (As := [.int (v3), .int 0, .int 984]) (rest := []) (c_X12_in l D b0 r M (v3) (0 : Int32) (984 : Int32) ) rfl rfl (Nat.le_of_ble_eq_true rfl) ⟨Nat.le_of_ble_eq_true rfl, Nat.le_of_ble_eq_true rfl⟩ ⟨Nat.zero_le _, Nat.zero_le _⟩ dX12_seal_26 (fun v_16 M9 H locs e9 w => ?_)
        obtain ⟨ev_16, e9⟩ := e9
        rw [e9] at w
        subst ev_16
        refine lv_if_eq (tgt := 44) C.1 C.2.1 dX12_seal_29 (by decide) (fun h_17 => ?_) (fun h_17 => ?_)
        · refine lv_bipush (v := (-2)) C.1 C.2.1 dX12_seal_44 (by decide) ?_
          exact m_iret C w (by exact Eq.symm (((if_neg hS).trans ((if_neg h_13).trans ((if_neg h_15).trans ((if_pos h_17).trans rfl)))))) dX12_seal_46
        · refine lv_iload C.1 C.2.1 dX12_seal_32 (lv_at hl 4 rfl) ?_
          refine lv_aload_n C.1 C.2.1 dX12_seal_34 rfl (lv_at hl 0 rfl) ?_
          refine m_get C w (k := 117) (j := 4) (v := .int (M.1 117 4)) flX12_364 (by decide) rfl rfl dX12_seal_35 ?_
          refine m_i (y := nI (ts)) h1 ?_
          refine lv_iload C.1 C.2.1 dX12_seal_38 (lv_at hl 3 rfl) ?_
          refine lv_isub C.1 C.2.1 dX12_seal_40 ?_
          refine lv_icmp_le (tgt := 47) C.1 C.2.1 dX12_seal_41 (by decide) (fun h_18 => absurd h_18 (fun q => hS ⟨h_13, h_15, h_17, q⟩)) (fun _ => ?_)
          refine lv_bipush (v := (-2)) C.1 C.2.1 dX12_seal_44 (by decide) ?_
          exact m_iret C w (by exact Eq.symm (((if_neg hS).trans ((if_neg h_13).trans ((if_neg h_15).trans ((if_neg h_17).trans rfl)))))) dX12_seal_46

def f_X12_open_B1 (q3 : Nat) (M_8 : mm_M) (v_9 : Int32) : Int32 × mm_M :=
  if ¬ (v_9) = (0 : Int32) then (let v_12 := (f_X12_tells 120 (q3 - 16) M_8).1
  let M_11 := (f_X12_tells 120 (q3 - 16) M_8).2
  ((v_12), M_11)) else (((-1 : Int32), M_8))
theorem w_f_X12_open_B1 (q3 : Nat) (M_8 : mm_M) (v_9 : Int32) : mm_fr2 [121, 117] M_8 (f_X12_open_B1 q3 M_8 v_9) := by
  unfold f_X12_open_B1
  exact (mm_fr_ite2 (fun _ => ((w_f_X12_tells _ _ _).m.on (by simp) (mm_fr_refl _ _)).b) (fun _ => (mm_fr_refl _ _).b))
def f_X12_open (v1 : Int32) (u1 : Int64) (v2 : Int32) (v3 : Int32) (ts : Nat) (M : mm_M) : Int32 × mm_M :=
  if ¬ f_X12_isKey v1 = 0 ∧ ¬ f_X12_in v2 0 (nI ts) = 0 ∧ ¬ f_X12_in v3 0 (nI ts - v2) = 0 then (let q1 := (v1).toNatClampNeg
  let q2 := (v2).toNatClampNeg
  let q3 := (v3).toNatClampNeg
  let M_7 := f_X12_takes ts M
  let v_9 := (f_X12_opens 122 (32 * q1) (u1) 119 0 q2 119 q2 q3 120 0 M_7).1
  let M_8 := (f_X12_opens 122 (32 * q1) (u1) 119 0 q2 119 q2 q3 120 0 M_7).2
  f_X12_open_B1 q3 M_8 v_9) else (if (f_X12_isKey (v1)) = (0 : Int32) then (((-2 : Int32), M)) else (if (f_X12_in (v2) (0 : Int32) (nI (ts))) = (0 : Int32) then (((-2 : Int32), M)) else (((-2 : Int32), M))))
theorem w_f_X12_open (v1 : Int32) (u1 : Int64) (v2 : Int32) (v3 : Int32) (ts : Nat) (M : mm_M) : mm_fr2 [119, 117, 147, 149, 148, 155, 151, 150, 152, 153, 156, 154, 120, 121] M (f_X12_open v1 u1 v2 v3 ts M) := by
  unfold f_X12_open
  exact (mm_fr_ite2 (fun _ => ((w_f_X12_open_B1 _ _ _).on (by simp) ((w_f_X12_opens _ _ _ _ _ _ _ _ _ _ _ _).m.on (by simp) ((w_f_X12_takes _ _).on (by simp) (mm_fr_refl _ _))))) (fun _ => (mm_fr_ite2 (fun _ => (mm_fr_refl _ _).b) (fun _ => (mm_fr_ite2 (fun _ => (mm_fr_refl _ _).b) (fun _ => (mm_fr_refl _ _).b))))))
set_option maxHeartbeats 4000000 in
set_option maxRecDepth 100000 in
theorem c_X12_open (l : Launch) (D : va_G) (b0 : Nat) (r : Nat → Nat) (M : mm_M) (v1 : Int32) (u1 : Int64) (v2 : Int32) (v3 : Int32) (ts : Nat) (hts : ts ≤ 1000) (h1 : M.1 117 4 = nI ts) : mm_Mi l yX12_open cX12_open 6 .int 5 135 D b0 r [.ref (r (117)), .int (v1), .long (u1), .int (v2), .int (v3)] M (fun v M' => (v, M') = f_X12_open v1 u1 v2 v3 ts M) := by
  refine mm_enter (cc := cX12_open) (nL := 6) (ret := (some .int)) (by decide) (Nat.le_of_ble_eq_true rfl) ?_
  intro p e s m args below meth c C w ls hl
  have hl : lv_has ls 6 [(0, .ref (r (117))), (1, .int (v1)), (2, .long (u1)), (4, .int (v2)), (5, .int (v3))] := hl
  by_cases hS : ¬ f_X12_isKey v1 = 0 ∧ ¬ f_X12_in v2 0 (nI ts) = 0 ∧ ¬ f_X12_in v3 0 (nI ts - v2) = 0
  · obtain ⟨q1, eq1⟩ : ∃ zz, zz = (v1).toNatClampNeg := ⟨_, rfl⟩
    obtain ⟨hvq1, hbq1⟩ : v1 = nI q1 ∧ q1 < 8 := by rw [eq1]; exact g_isKey2 hS.1
    rw [hvq1] at hl
    obtain ⟨q2, eq2⟩ : ∃ zz, zz = (v2).toNatClampNeg := ⟨_, rfl⟩
    obtain ⟨hvq2, hbq2⟩ : v2 = nI q2 ∧ q2 ≤ ts := by rw [eq2]; exact g_inN (by omega) hS.2.1
    rw [hvq2] at hl
    obtain ⟨q3, eq3⟩ : ∃ zz, zz = (v3).toNatClampNeg := ⟨_, rfl⟩
    obtain ⟨hvq3, hbq3⟩ : v3 = nI q3 ∧ v2.toNatClampNeg + q3 ≤ ts := by rw [eq3]; exact g_openX hts hS.2.1 hS.2.2
    rw [hvq3] at hl
    have hTq1 : ¬ f_X12_isKey (nI q1) = 0 := by rw [← hvq1]; exact hS.1
    have hTq2 : ¬ f_X12_in (nI q2) 0 (nI ts) = 0 := by rw [← hvq2]; exact hS.2.1
    have hTq3 : ¬ f_X12_in (nI q3) 0 (nI (ts - q2)) = 0 := by have h9 := hS.2.2; rw [hvq3, hvq2, pk_sub (by omega)] at h9; exact h9
    rw [← eq2] at hbq3
    refine lv_iload_n C.1 C.2.1 dX12_open_0 rfl (lv_at hl 1 rfl) ?_
    refine m_csi C w hl csX12_377 (As := [.int (nI (q1))]) (rest := []) (c_X12_isKey l D b0 r M (nI (q1)) ) rfl rfl (Nat.le_of_ble_eq_true rfl) ⟨Nat.le_of_ble_eq_true rfl, Nat.le_of_ble_eq_true rfl⟩ ⟨Nat.zero_le _, Nat.zero_le _⟩ dX12_open_1 (fun v_1 M9 H locs e9 w => ?_)
    obtain ⟨ev_1, e9⟩ := e9
    rw [e9] at w
    subst ev_1
    refine lv_if_eq (tgt := 36) C.1 C.2.1 dX12_open_4 (by decide) (fun h_2 => absurd h_2 hTq1) (fun _ => ?_)
    refine lv_iload C.1 C.2.1 dX12_open_7 (lv_at hl 3 rfl) ?_
    refine lv_iconst (v := 0) C.1 C.2.1 dX12_open_9 (by decide) ?_
    refine lv_aload_n C.1 C.2.1 dX12_open_10 rfl (lv_at hl 0 rfl) ?_
    refine m_get C w (k := 117) (j := 4) (v := .int (M.1 117 4)) flX12_364 (by decide) rfl rfl dX12_open_11 ?_
    refine m_i (y := nI (ts)) h1 ?_
    refine m_csi C w hl csX12_373 (As := [.int (nI (q2)), .int 0, .int (nI (ts))]) (rest := []) (c_X12_in l D b0 r M (nI (q2)) (0 : Int32) (nI (ts)) ) rfl rfl (Nat.le_of_ble_eq_true rfl) ⟨Nat.le_of_ble_eq_true rfl, Nat.le_of_ble_eq_true rfl⟩ ⟨Nat.zero_le _, Nat.zero_le _⟩ dX12_open_14 (fun v_3 M9 H locs e9 w => ?_)
    obtain ⟨ev_3, e9⟩ := e9
    rw [e9] at w
    subst ev_3
    refine lv_if_eq (tgt := 36) C.1 C.2.1 dX12_open_17 (by decide) (fun h_4 => absurd h_4 hTq2) (fun _ => ?_)
    refine lv_iload C.1 C.2.1 dX12_open_20 (lv_at hl 4 rfl) ?_
    refine lv_iconst (v := 0) C.1 C.2.1 dX12_open_22 (by decide) ?_
    refine lv_aload_n C.1 C.2.1 dX12_open_23 rfl (lv_at hl 0 rfl) ?_
    refine m_get C w (k := 117) (j := 4) (v := .int (M.1 117 4)) flX12_364 (by decide) rfl rfl dX12_open_24 ?_
    refine m_i (y := nI (ts)) h1 ?_
    refine lv_iload C.1 C.2.1 dX12_open_27 (lv_at hl 3 rfl) ?_
    refine lv_isub C.1 C.2.1 dX12_open_29 ?_
    refine m_i (y := nI (ts - q2)) (pk_sub (a := ts) (b := q2) (by omega)) ?_
    refine m_csi C w hl csX12_373 (As := [.int (nI (q3)), .int 0, .int (nI (ts - q2))]) (rest := []) (c_X12_in l D b0 r M (nI (q3)) (0 : Int32) (nI (ts - q2)) ) rfl rfl (Nat.le_of_ble_eq_true rfl) ⟨Nat.le_of_ble_eq_true rfl, Nat.le_of_ble_eq_true rfl⟩ ⟨Nat.zero_le _, Nat.zero_le _⟩ dX12_open_30 (fun v_5 M9 H locs e9 w => ?_)
    obtain ⟨ev_5, e9⟩ := e9
    rw [e9] at w
    subst ev_5
    refine lv_if_ne (tgt := 39) C.1 C.2.1 dX12_open_33 (by decide) (fun _ => ?_) (fun h_6 => absurd h_6 hTq3)
    refine lv_aload_n C.1 C.2.1 dX12_open_39 rfl (lv_at hl 0 rfl) ?_
    refine m_cvv C w hl cvX12_381 (k := 117) (by decide) rfl (q := (RX12, TX12, 58)) rfl rfl (As := []) (rest := []) (c_X12_takes l D b0 r M ts (by omega) h1) rfl rfl (Nat.le_of_ble_eq_true rfl) ⟨Nat.le_of_ble_eq_true rfl, Nat.le_of_ble_eq_true rfl⟩ ⟨Nat.zero_le _, Nat.zero_le _⟩ dX12_open_40 (fun M_7 H locs eM_7 w => ?_)
    refine lv_aload_n C.1 C.2.1 dX12_open_43 rfl (lv_at hl 0 rfl) ?_
    refine lv_aload_n C.1 C.2.1 dX12_open_44 rfl (lv_at hl 0 rfl) ?_
    refine m_get C w (k := 117) (j := 6) (v := .ref (r (122))) flX12_22 (by decide) rfl rfl dX12_open_45 ?_
    refine lv_bipush (v := 32) C.1 C.2.1 dX12_open_48 (by decide) ?_
    refine lv_iload_n C.1 C.2.1 dX12_open_50 rfl (lv_at hl 1 rfl) ?_
    refine lv_imul C.1 C.2.1 dX12_open_51 ?_
    refine m_i (y := nI (32 * q1)) (pk_mul 32 q1) ?_
    refine lv_lload_n C.1 C.2.1 dX12_open_52 rfl (lv_at hl 2 rfl) ?_
    refine lv_aload_n C.1 C.2.1 dX12_open_53 rfl (lv_at hl 0 rfl) ?_
    refine m_get C w (k := 117) (j := 1) (v := .ref (r (119))) flX12_13 (by decide) rfl rfl dX12_open_54 ?_
    refine lv_iconst (v := 0) C.1 C.2.1 dX12_open_57 (by decide) ?_
    refine lv_iload C.1 C.2.1 dX12_open_58 (lv_at hl 3 rfl) ?_
    refine lv_aload_n C.1 C.2.1 dX12_open_60 rfl (lv_at hl 0 rfl) ?_
    refine m_get C w (k := 117) (j := 1) (v := .ref (r (119))) flX12_13 (by decide) rfl rfl dX12_open_61 ?_
    refine lv_iload C.1 C.2.1 dX12_open_64 (lv_at hl 3 rfl) ?_
    refine lv_iload C.1 C.2.1 dX12_open_66 (lv_at hl 4 rfl) ?_
    refine lv_aload_n C.1 C.2.1 dX12_open_68 rfl (lv_at hl 0 rfl) ?_
    refine m_get C w (k := 117) (j := 2) (v := .ref (r (120))) flX12_16 (by decide) rfl rfl dX12_open_69 ?_
    refine lv_iconst (v := 0) C.1 C.2.1 dX12_open_72 (by decide) ?_
    refine m_cvi C w hl cvX12_398 (k := 117) (by decide) rfl (q := (RX12, TX12, 58)) rfl rfl (As := [.ref (r (122)), .int (nI (32 * q1)), .long (u1), .ref (r (119)), .int 0, .int (nI (q2)), .ref (r (119)), .int (nI (q2)), .int (nI (q3)), .ref (r (120)), .int 0]) (rest := []) (c_X12_opens l D b0 r M_7 122 (32 * q1) (u1) 119 0 q2 119 q2 q3 120 0 (by decide) rfl (by decide) (by omega) (by omega) (by decide) rfl (by decide) (by omega) (by omega) (by decide) rfl (by decide) (by omega) (by omega) (by decide) rfl (by decide) (by omega) (by omega)) rfl rfl (Nat.le_of_ble_eq_true rfl) ⟨Nat.le_of_ble_eq_true rfl, Nat.le_of_ble_eq_true rfl⟩ ⟨Nat.zero_le _, Nat.zero_le _⟩ dX12_open_73 (fun v_9 M_8 H locs e9 w => ?_)
    obtain ⟨ev_9, eM_8⟩ : v_9 = (f_X12_opens 122 (32 * q1) (u1) 119 0 q2 119 q2 q3 120 0 M_7).1 ∧ M_8 = (f_X12_opens 122 (32 * q1) (u1) 119 0 q2 119 q2 q3 120 0 M_7).2 := ⟨congrArg Prod.fst e9, congrArg Prod.snd e9⟩
    clear e9
    refine lv_if_ne (tgt := 81) C.1 C.2.1 dX12_open_76 (by decide) (fun h_10 => ?_) (fun h_10 => ?_)
    · have h16 : 16 ≤ q3 := r_X12_opens (fun q => h_10 (ev_9.trans q))
      refine lv_aload_n C.1 C.2.1 dX12_open_81 rfl (lv_at hl 0 rfl) ?_
      refine lv_aload_n C.1 C.2.1 dX12_open_82 rfl (lv_at hl 0 rfl) ?_
      refine m_get C w (k := 117) (j := 2) (v := .ref (r (120))) flX12_16 (by decide) rfl rfl dX12_open_83 ?_
      refine lv_iload C.1 C.2.1 dX12_open_86 (lv_at hl 4 rfl) ?_
      refine lv_bipush (v := 16) C.1 C.2.1 dX12_open_88 (by decide) ?_
      refine lv_isub C.1 C.2.1 dX12_open_90 ?_
      refine m_i (y := nI (q3 - 16)) (pk_sub (a := q3) (b := 16) (by omega)) ?_
      refine m_cvi C w hl cvX12_388 (k := 117) (by decide) rfl (q := (RX12, TX12, 58)) rfl rfl (As := [.ref (r (120)), .int (nI (q3 - 16))]) (rest := []) (c_X12_tells l D b0 r M_8 120 (q3 - 16) (by decide) rfl (by decide) (by omega) (by omega) (by omega)) rfl rfl (Nat.le_of_ble_eq_true rfl) ⟨Nat.le_of_ble_eq_true rfl, Nat.le_of_ble_eq_true rfl⟩ ⟨Nat.zero_le _, Nat.zero_le _⟩ dX12_open_91 (fun v_12 M_11 H locs e9 w => ?_)
      obtain ⟨ev_12, eM_11⟩ : v_12 = (f_X12_tells 120 (q3 - 16) M_8).1 ∧ M_11 = (f_X12_tells 120 (q3 - 16) M_8).2 := ⟨congrArg Prod.fst e9, congrArg Prod.snd e9⟩
      clear e9
      exact m_iret C w (by subst eq1 eq2 eq3 eM_7 ev_9 eM_8 ev_12 eM_11; exact Eq.symm (((if_pos hS).trans ((if_pos h_10).trans rfl)))) dX12_open_94
    · refine lv_iconst (v := (-1)) C.1 C.2.1 dX12_open_79 (by decide) ?_
      exact m_iret C w (by subst eq1 eq2 eq3 eM_7 ev_9 eM_8; exact Eq.symm (((if_pos hS).trans ((if_neg (fun q => q h_10)).trans rfl)))) dX12_open_80
  · refine lv_iload_n C.1 C.2.1 dX12_open_0 rfl (lv_at hl 1 rfl) ?_
    refine m_csi C w hl csX12_377 (As := [.int (v1)]) (rest := []) (c_X12_isKey l D b0 r M (v1) ) rfl rfl (Nat.le_of_ble_eq_true rfl) ⟨Nat.le_of_ble_eq_true rfl, Nat.le_of_ble_eq_true rfl⟩ ⟨Nat.zero_le _, Nat.zero_le _⟩ dX12_open_1 (fun v_13 M9 H locs e9 w => ?_)
    obtain ⟨ev_13, e9⟩ := e9
    rw [e9] at w
    subst ev_13
    refine lv_if_eq (tgt := 36) C.1 C.2.1 dX12_open_4 (by decide) (fun h_14 => ?_) (fun h_14 => ?_)
    · refine lv_bipush (v := (-2)) C.1 C.2.1 dX12_open_36 (by decide) ?_
      exact m_iret C w (by exact Eq.symm (((if_neg hS).trans ((if_pos h_14).trans rfl)))) dX12_open_38
    · refine lv_iload C.1 C.2.1 dX12_open_7 (lv_at hl 3 rfl) ?_
      refine lv_iconst (v := 0) C.1 C.2.1 dX12_open_9 (by decide) ?_
      refine lv_aload_n C.1 C.2.1 dX12_open_10 rfl (lv_at hl 0 rfl) ?_
      refine m_get C w (k := 117) (j := 4) (v := .int (M.1 117 4)) flX12_364 (by decide) rfl rfl dX12_open_11 ?_
      refine m_i (y := nI (ts)) h1 ?_
      refine m_csi C w hl csX12_373 (As := [.int (v2), .int 0, .int (nI (ts))]) (rest := []) (c_X12_in l D b0 r M (v2) (0 : Int32) (nI (ts)) ) rfl rfl (Nat.le_of_ble_eq_true rfl) ⟨Nat.le_of_ble_eq_true rfl, Nat.le_of_ble_eq_true rfl⟩ ⟨Nat.zero_le _, Nat.zero_le _⟩ dX12_open_14 (fun v_15 M9 H locs e9 w => ?_)
      obtain ⟨ev_15, e9⟩ := e9
      rw [e9] at w
      subst ev_15
      refine lv_if_eq (tgt := 36) C.1 C.2.1 dX12_open_17 (by decide) (fun h_16 => ?_) (fun h_16 => ?_)
      · refine lv_bipush (v := (-2)) C.1 C.2.1 dX12_open_36 (by decide) ?_
        exact m_iret C w (by exact Eq.symm (((if_neg hS).trans ((if_neg h_14).trans ((if_pos h_16).trans rfl))))) dX12_open_38
      · refine lv_iload C.1 C.2.1 dX12_open_20 (lv_at hl 4 rfl) ?_
        refine lv_iconst (v := 0) C.1 C.2.1 dX12_open_22 (by decide) ?_
        refine lv_aload_n C.1 C.2.1 dX12_open_23 rfl (lv_at hl 0 rfl) ?_
        refine m_get C w (k := 117) (j := 4) (v := .int (M.1 117 4)) flX12_364 (by decide) rfl rfl dX12_open_24 ?_
        refine m_i (y := nI (ts)) h1 ?_
        refine lv_iload C.1 C.2.1 dX12_open_27 (lv_at hl 3 rfl) ?_
        refine lv_isub C.1 C.2.1 dX12_open_29 ?_
        refine m_csi C w hl csX12_373 (As := [.int (v3), .int 0, .int ((nI (ts)) - (v2))]) (rest := []) (c_X12_in l D b0 r M (v3) (0 : Int32) ((nI (ts)) - (v2)) ) rfl rfl (Nat.le_of_ble_eq_true rfl) ⟨Nat.le_of_ble_eq_true rfl, Nat.le_of_ble_eq_true rfl⟩ ⟨Nat.zero_le _, Nat.zero_le _⟩ dX12_open_30 (fun v_17 M9 H locs e9 w => ?_)
        obtain ⟨ev_17, e9⟩ := e9
        rw [e9] at w
        subst ev_17
        refine lv_if_ne (tgt := 39) C.1 C.2.1 dX12_open_33 (by decide) (fun h_18 => absurd h_18 (fun q => hS ⟨h_14, h_16, q⟩)) (fun _ => ?_)
        refine lv_bipush (v := (-2)) C.1 C.2.1 dX12_open_36 (by decide) ?_
        exact m_iret C w (by exact Eq.symm (((if_neg hS).trans ((if_neg h_14).trans ((if_neg h_16).trans rfl))))) dX12_open_38
