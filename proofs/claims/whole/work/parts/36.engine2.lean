def f_X11_patch (v1 : Int32) (v2 : Int32) (ts : Nat) (M : mm_M) : Int32 × mm_M :=
  if ¬ v1 < 0 ∧ v1 < nI ts then (let q1 := (v1).toNatClampNeg
  let M_3 := mm_w M 1 q1 (mm_b (v2))
  ((1 : Int32), M_3)) else (if (v1) < (0 : Int32) then (((0 : Int32), M)) else (((0 : Int32), M)))
theorem w_f_X11_patch (v1 : Int32) (v2 : Int32) (ts : Nat) (M : mm_M) : mm_fr2 [1] M (f_X11_patch v1 v2 ts M) := by
  unfold f_X11_patch
  exact (mm_fr_ite2 (fun _ => (mm_fr_w (by simp) (mm_fr_refl _ _)).b) (fun _ => (mm_fr_ite2 (fun _ => (mm_fr_refl _ _).b) (fun _ => (mm_fr_refl _ _).b))))
set_option maxHeartbeats 4000000 in
set_option maxRecDepth 100000 in
theorem c_X11_patch (l : Launch) (D : va_G) (b0 : Nat) (r : Nat → Nat) (M : mm_M) (v1 : Int32) (v2 : Int32) (ts : Nat) (hts : ts ≤ 1000) (h1 : M.1 0 1 = nI ts) : mm_Mi l yX11_patch cX11_patch 3 .boolean 0 0 D b0 r [.ref (r (0)), .int (v1), .int (v2)] M (fun v M' => (v, M') = f_X11_patch v1 v2 ts M) := by
  refine mm_enter (cc := cX11_patch) (nL := 3) (ret := (some .boolean)) (by decide) (Nat.le_of_ble_eq_true rfl) ?_
  intro p e s m args below meth c C w ls hl
  have hl : lv_has ls 3 [(0, .ref (r (0))), (1, .int (v1)), (2, .int (v2))] := hl
  by_cases hS : ¬ v1 < 0 ∧ v1 < nI ts
  · obtain ⟨q1, eq1⟩ : ∃ zz, zz = (v1).toNatClampNeg := ⟨_, rfl⟩
    obtain ⟨hvq1, hbq1⟩ : v1 = nI q1 ∧ q1 < ts := by rw [eq1]; exact mm_nat (by omega) hS.1 (Int32.not_le.mpr hS.2)
    rw [hvq1] at hl
    refine lv_iload_n C.1 C.2.1 dX11_patch_0 rfl (lv_at hl 1 rfl) ?_
    refine lv_if_lt (tgt := 12) C.1 C.2.1 dX11_patch_1 (by decide) (fun h_1 => absurd h_1 (nI_pos (by omega))) (fun _ => ?_)
    refine lv_iload_n C.1 C.2.1 dX11_patch_4 rfl (lv_at hl 1 rfl) ?_
    refine lv_aload_n C.1 C.2.1 dX11_patch_5 rfl (lv_at hl 0 rfl) ?_
    refine m_get C w (k := 0) (j := 1) (v := .int (M.1 0 1)) flX11_13 (by decide) rfl rfl dX11_patch_6 ?_
    refine m_i (y := nI (ts)) h1 ?_
    refine m_icmp_lt (tgt := 14) (a := q1) (b := ts) C (by omega) (by omega) dX11_patch_9 (by decide) (fun _ => ?_) (fun h_2 => absurd h_2 (by omega))
    refine lv_aload_n C.1 C.2.1 dX11_patch_14 rfl (lv_at hl 0 rfl) ?_
    refine m_get C w (k := 0) (j := 0) (v := .ref (r (1))) flX11_9 (by decide) rfl rfl dX11_patch_15 ?_
    refine lv_iload_n C.1 C.2.1 dX11_patch_18 rfl (lv_at hl 1 rfl) ?_
    refine lv_iload_n C.1 C.2.1 dX11_patch_19 rfl (lv_at hl 2 rfl) ?_
    refine lv_i2b (v := mm_b (v2)) C.1 C.2.1 dX11_patch_20 rfl ?_
    refine m_bast C w (k := 1) (i := q1) (n := 1000) (x := (mm_b (v2))) (by decide) rfl (by omega) (by decide) (mm_bb _) dX11_patch_21 (fun H locs w => ?_)
    obtain ⟨M_3, eM_3⟩ : ∃ zz, zz = mm_w M 1 q1 (mm_b (v2)) := ⟨_, rfl⟩
    rw [← eM_3] at w
    refine lv_iconst (v := 1) C.1 C.2.1 dX11_patch_22 (by decide) ?_
    exact m_zret C w (by decide) (by subst eq1 eM_3; exact Eq.symm (((if_pos hS).trans rfl))) dX11_patch_23
  · refine lv_iload_n C.1 C.2.1 dX11_patch_0 rfl (lv_at hl 1 rfl) ?_
    refine lv_if_lt (tgt := 12) C.1 C.2.1 dX11_patch_1 (by decide) (fun h_4 => ?_) (fun h_4 => ?_)
    · refine lv_iconst (v := 0) C.1 C.2.1 dX11_patch_12 (by decide) ?_
      exact m_zret C w (by decide) (by exact Eq.symm (((if_neg hS).trans ((if_pos h_4).trans rfl)))) dX11_patch_13
    · refine lv_iload_n C.1 C.2.1 dX11_patch_4 rfl (lv_at hl 1 rfl) ?_
      refine lv_aload_n C.1 C.2.1 dX11_patch_5 rfl (lv_at hl 0 rfl) ?_
      refine m_get C w (k := 0) (j := 1) (v := .int (M.1 0 1)) flX11_13 (by decide) rfl rfl dX11_patch_6 ?_
      refine m_i (y := nI (ts)) h1 ?_
      refine lv_icmp_lt (tgt := 14) C.1 C.2.1 dX11_patch_9 (by decide) (fun h_5 => absurd h_5 (fun q => hS ⟨h_4, q⟩)) (fun _ => ?_)
      refine lv_iconst (v := 0) C.1 C.2.1 dX11_patch_12 (by decide) ?_
      exact m_zret C w (by decide) (by exact Eq.symm (((if_neg hS).trans ((if_neg h_4).trans rfl)))) dX11_patch_13

def f_X11_hasBegun (v1 : Int32) (M : mm_M) : Int32 :=
  if ¬ f_X11_isSession v1 = 0 then (let q1 := (v1).toNatClampNeg
  if (f_X7_hasBegun (49 + 17 * q1) M) = (0 : Int32) then ((0 : Int32)) else ((1 : Int32))) else ((0 : Int32))
set_option maxHeartbeats 4000000 in
set_option maxRecDepth 100000 in
theorem c_X11_hasBegun (l : Launch) (D : va_G) (b0 : Nat) (r : Nat → Nat) (M : mm_M) (v1 : Int32)  : mm_Mi l yX11_hasBegun cX11_hasBegun 2 .boolean 1 20 D b0 r [.ref (r (0)), .int (v1)] M (fun v M' => v = f_X11_hasBegun v1 M ∧ M' = M) := by
  refine mm_enter (cc := cX11_hasBegun) (nL := 2) (ret := (some .boolean)) (by decide) (Nat.le_of_ble_eq_true rfl) ?_
  intro p e s m args below meth c C w ls hl
  have hl : lv_has ls 2 [(0, .ref (r (0))), (1, .int (v1))] := hl
  by_cases hS : ¬ f_X11_isSession v1 = 0
  · obtain ⟨q1, eq1⟩ : ∃ zz, zz = (v1).toNatClampNeg := ⟨_, rfl⟩
    obtain ⟨hvq1, hbq1⟩ : v1 = nI q1 ∧ q1 < 4 := by rw [eq1]; exact g_isSession hS
    rw [hvq1] at hl
    have hTq1 : ¬ f_X11_isSession (nI q1) = 0 := by rw [← hvq1]; exact hS
    refine lv_iload_n C.1 C.2.1 dX11_hasBegun_0 rfl (lv_at hl 1 rfl) ?_
    refine m_csi C w hl csX11_146 (As := [.int (nI (q1))]) (rest := []) (c_X11_isSession l D b0 r M (nI (q1)) ) rfl rfl (Nat.le_of_ble_eq_true rfl) ⟨Nat.le_of_ble_eq_true rfl, Nat.le_of_ble_eq_true rfl⟩ ⟨Nat.zero_le _, Nat.zero_le _⟩ dX11_hasBegun_1 (fun v_1 M9 H locs e9 w => ?_)
    obtain ⟨ev_1, e9⟩ := e9
    rw [e9] at w
    subst ev_1
    refine lv_if_eq (tgt := 23) C.1 C.2.1 dX11_hasBegun_4 (by decide) (fun h_2 => absurd h_2 hTq1) (fun _ => ?_)
    refine lv_aload_n C.1 C.2.1 dX11_hasBegun_7 rfl (lv_at hl 0 rfl) ?_
    refine m_get C w (k := 0) (j := 6) (v := .ref (r (42))) flX11_37 (by decide) rfl rfl dX11_hasBegun_8 ?_
    refine lv_iload_n C.1 C.2.1 dX11_hasBegun_11 rfl (lv_at hl 1 rfl) ?_
    refine m_aald C w (k := 42) (i := q1) (n := 4) (wr := true) (q := 49 + 17 * q1) (by decide) rfl rfl (by omega) (by decide) (mm_ses_ds q1 (by omega)) dX11_hasBegun_12 ?_
    refine m_cvi C w hl cvX11_189 (k := 49 + 17 * q1) (by have := (mm_ses_of q1 (by omega)).1; omega) (mm_ses_of q1 (by omega)).2.2.1 (q := (RX7, TX7, 12)) rfl rfl (As := []) (rest := []) (c_X7_hasBegun l D b0 r M (49 + 17 * q1) (mm_ses_of q1 (by omega))) rfl rfl (Nat.le_of_ble_eq_true rfl) ⟨Nat.le_of_ble_eq_true rfl, Nat.le_of_ble_eq_true rfl⟩ ⟨Nat.zero_le _, Nat.zero_le _⟩ dX11_hasBegun_13 (fun v_3 M9 H locs e9 w => ?_)
    obtain ⟨ev_3, e9⟩ := e9
    rw [e9] at w
    subst ev_3
    refine lv_if_eq (tgt := 23) C.1 C.2.1 dX11_hasBegun_16 (by decide) (fun h_4 => ?_) (fun h_4 => ?_)
    · refine lv_iconst (v := 0) C.1 C.2.1 dX11_hasBegun_23 (by decide) ?_
      exact m_zret C w (by decide) ⟨by subst eq1; exact Eq.symm (((if_pos hS).trans ((if_pos h_4).trans rfl))), rfl⟩ dX11_hasBegun_24
    · refine lv_iconst (v := 1) C.1 C.2.1 dX11_hasBegun_19 (by decide) ?_
      refine lv_goto (tgt := 24) C.1 C.2.1 dX11_hasBegun_20 (by decide) ?_
      exact m_zret C w (by decide) ⟨by subst eq1; exact Eq.symm (((if_pos hS).trans ((if_neg h_4).trans rfl))), rfl⟩ dX11_hasBegun_24
  · refine lv_iload_n C.1 C.2.1 dX11_hasBegun_0 rfl (lv_at hl 1 rfl) ?_
    refine m_csi C w hl csX11_146 (As := [.int (v1)]) (rest := []) (c_X11_isSession l D b0 r M (v1) ) rfl rfl (Nat.le_of_ble_eq_true rfl) ⟨Nat.le_of_ble_eq_true rfl, Nat.le_of_ble_eq_true rfl⟩ ⟨Nat.zero_le _, Nat.zero_le _⟩ dX11_hasBegun_1 (fun v_5 M9 H locs e9 w => ?_)
    obtain ⟨ev_5, e9⟩ := e9
    rw [e9] at w
    subst ev_5
    refine lv_if_eq (tgt := 23) C.1 C.2.1 dX11_hasBegun_4 (by decide) (fun _ => ?_) (fun h_6 => absurd h_6 (fun q => hS q))
    refine lv_iconst (v := 0) C.1 C.2.1 dX11_hasBegun_23 (by decide) ?_
    exact m_zret C w (by decide) ⟨by exact Eq.symm (((if_neg hS).trans rfl)), rfl⟩ dX11_hasBegun_24

def f_X11_key (v1 : Int32) (ts : Nat) (M : mm_M) : Int32 × mm_M :=
  if ¬ f_X11_isKey v1 = 0 ∧ ¬ f_X11_isOnTape 32 M = 0 then (let q1 := (v1).toNatClampNeg
  let M_5 := mm_cp M 1 0 (4 + q1) 0 32
  let M_6 := f_X11_emptyTape M_5
  ((1 : Int32), M_6)) else (if (f_X11_isKey (v1)) = (0 : Int32) then (((0 : Int32), M)) else (((0 : Int32), M)))
theorem w_f_X11_key (v1 : Int32) (ts : Nat) (M : mm_M) : mm_fr2 [4 + v1.toNatClampNeg, 0] M (f_X11_key v1 ts M) := by
  unfold f_X11_key
  exact (mm_fr_ite2 (fun _ => ((w_f_X11_emptyTape _).on (by simp) (mm_fr_cp (by simp) (mm_fr_refl _ _))).b) (fun _ => (mm_fr_ite2 (fun _ => (mm_fr_refl _ _).b) (fun _ => (mm_fr_refl _ _).b))))
set_option maxHeartbeats 4000000 in
set_option maxRecDepth 100000 in
theorem c_X11_key (l : Launch) (D : va_G) (b0 : Nat) (r : Nat → Nat) (M : mm_M) (v1 : Int32) (ts : Nat) (hts : ts ≤ 1000) (h1 : M.1 0 1 = nI ts) : mm_Mi l yX11_key cX11_key 2 .boolean 1 48 D b0 r [.ref (r (0)), .int (v1)] M (fun v M' => (v, M') = f_X11_key v1 ts M) := by
  refine mm_enter (cc := cX11_key) (nL := 2) (ret := (some .boolean)) (by decide) (Nat.le_of_ble_eq_true rfl) ?_
  intro p e s m args below meth c C w ls hl
  have hl : lv_has ls 2 [(0, .ref (r (0))), (1, .int (v1))] := hl
  by_cases hS : ¬ f_X11_isKey v1 = 0 ∧ ¬ f_X11_isOnTape 32 M = 0
  · obtain ⟨q1, eq1⟩ : ∃ zz, zz = (v1).toNatClampNeg := ⟨_, rfl⟩
    obtain ⟨hvq1, hbq1⟩ : v1 = nI q1 ∧ q1 < 8 := by rw [eq1]; exact g_isKey hS.1
    rw [hvq1] at hl
    have hTq1 : ¬ f_X11_isKey (nI q1) = 0 := by rw [← hvq1]; exact hS.1
    refine lv_iload_n C.1 C.2.1 dX11_key_0 rfl (lv_at hl 1 rfl) ?_
    refine m_csi C w hl csX11_61 (As := [.int (nI (q1))]) (rest := []) (c_X11_isKey l D b0 r M (nI (q1)) ) rfl rfl (Nat.le_of_ble_eq_true rfl) ⟨Nat.le_of_ble_eq_true rfl, Nat.le_of_ble_eq_true rfl⟩ ⟨Nat.zero_le _, Nat.zero_le _⟩ dX11_key_1 (fun v_1 M9 H locs e9 w => ?_)
    obtain ⟨ev_1, e9⟩ := e9
    rw [e9] at w
    subst ev_1
    refine lv_if_eq (tgt := 16) C.1 C.2.1 dX11_key_4 (by decide) (fun h_2 => absurd h_2 hTq1) (fun _ => ?_)
    refine lv_aload_n C.1 C.2.1 dX11_key_7 rfl (lv_at hl 0 rfl) ?_
    refine lv_bipush (v := 32) C.1 C.2.1 dX11_key_8 (by decide) ?_
    refine m_cvi C w hl cvX11_65 (k := 0) (by decide) rfl (q := (RX11, TX11, 7)) rfl rfl (As := [.int 32]) (rest := []) (c_X11_isOnTape l D b0 r M (32 : Int32) ) rfl rfl (Nat.le_of_ble_eq_true rfl) ⟨Nat.le_of_ble_eq_true rfl, Nat.le_of_ble_eq_true rfl⟩ ⟨Nat.zero_le _, Nat.zero_le _⟩ dX11_key_10 (fun v_3 M9 H locs e9 w => ?_)
    obtain ⟨ev_3, e9⟩ := e9
    rw [e9] at w
    subst ev_3
    refine lv_if_ne (tgt := 18) C.1 C.2.1 dX11_key_13 (by decide) (fun _ => ?_) (fun h_4 => absurd h_4 hS.2)
    refine lv_aload_n C.1 C.2.1 dX11_key_18 rfl (lv_at hl 0 rfl) ?_
    refine m_get C w (k := 0) (j := 0) (v := .ref (r (1))) flX11_9 (by decide) rfl rfl dX11_key_19 ?_
    refine lv_iconst (v := 0) C.1 C.2.1 dX11_key_22 (by decide) ?_
    refine lv_aload_n C.1 C.2.1 dX11_key_23 rfl (lv_at hl 0 rfl) ?_
    refine m_get C w (k := 0) (j := 4) (v := .ref (r (3))) flX11_25 (by decide) rfl rfl dX11_key_24 ?_
    refine lv_iload_n C.1 C.2.1 dX11_key_27 rfl (lv_at hl 1 rfl) ?_
    refine m_aald C w (k := 3) (i := q1) (n := 8) (wr := true) (q := 4 + q1) (by decide) rfl rfl (by omega) (by decide) (mm_key_ds q1 (by omega)) dX11_key_28 ?_
    refine lv_iconst (v := 0) C.1 C.2.1 dX11_key_29 (by decide) ?_
    refine lv_bipush (v := 32) C.1 C.2.1 dX11_key_30 (by decide) ?_
    refine m_cpb C w hl (k := 1) (k2 := 4 + q1) (sp := 0) (dp := 0) (n := 32) (by decide) rfl (by decide) (by omega) (mm_key q1 (by omega)) (by decide) acX11_55 (by omega) (by omega) (Nat.le_of_ble_eq_true rfl) (Nat.le_of_ble_eq_true rfl) dX11_key_32 (fun H locs w => ?_)
    obtain ⟨M_5, eM_5⟩ : ∃ zz, zz = mm_cp M 1 0 (4 + q1) 0 32 := ⟨_, rfl⟩
    rw [← eM_5] at w
    refine lv_aload_n C.1 C.2.1 dX11_key_35 rfl (lv_at hl 0 rfl) ?_
    refine m_cvv C w hl cvX11_68 (k := 0) (by decide) rfl (q := (RX11, TX11, 7)) rfl rfl (As := []) (rest := []) (c_X11_emptyTape l D b0 r M_5  ) rfl rfl (Nat.le_of_ble_eq_true rfl) ⟨Nat.le_of_ble_eq_true rfl, Nat.le_of_ble_eq_true rfl⟩ ⟨Nat.zero_le _, Nat.zero_le _⟩ dX11_key_36 (fun M_6 H locs eM_6 w => ?_)
    refine lv_iconst (v := 1) C.1 C.2.1 dX11_key_39 (by decide) ?_
    exact m_zret C w (by decide) (by subst eq1 eM_5 eM_6; exact Eq.symm (((if_pos hS).trans rfl))) dX11_key_40
  · refine lv_iload_n C.1 C.2.1 dX11_key_0 rfl (lv_at hl 1 rfl) ?_
    refine m_csi C w hl csX11_61 (As := [.int (v1)]) (rest := []) (c_X11_isKey l D b0 r M (v1) ) rfl rfl (Nat.le_of_ble_eq_true rfl) ⟨Nat.le_of_ble_eq_true rfl, Nat.le_of_ble_eq_true rfl⟩ ⟨Nat.zero_le _, Nat.zero_le _⟩ dX11_key_1 (fun v_7 M9 H locs e9 w => ?_)
    obtain ⟨ev_7, e9⟩ := e9
    rw [e9] at w
    subst ev_7
    refine lv_if_eq (tgt := 16) C.1 C.2.1 dX11_key_4 (by decide) (fun h_8 => ?_) (fun h_8 => ?_)
    · refine lv_iconst (v := 0) C.1 C.2.1 dX11_key_16 (by decide) ?_
      exact m_zret C w (by decide) (by exact Eq.symm (((if_neg hS).trans ((if_pos h_8).trans rfl)))) dX11_key_17
    · refine lv_aload_n C.1 C.2.1 dX11_key_7 rfl (lv_at hl 0 rfl) ?_
      refine lv_bipush (v := 32) C.1 C.2.1 dX11_key_8 (by decide) ?_
      refine m_cvi C w hl cvX11_65 (k := 0) (by decide) rfl (q := (RX11, TX11, 7)) rfl rfl (As := [.int 32]) (rest := []) (c_X11_isOnTape l D b0 r M (32 : Int32) ) rfl rfl (Nat.le_of_ble_eq_true rfl) ⟨Nat.le_of_ble_eq_true rfl, Nat.le_of_ble_eq_true rfl⟩ ⟨Nat.zero_le _, Nat.zero_le _⟩ dX11_key_10 (fun v_9 M9 H locs e9 w => ?_)
      obtain ⟨ev_9, e9⟩ := e9
      rw [e9] at w
      subst ev_9
      refine lv_if_ne (tgt := 18) C.1 C.2.1 dX11_key_13 (by decide) (fun h_10 => absurd h_10 (fun q => hS ⟨h_8, q⟩)) (fun _ => ?_)
      refine lv_iconst (v := 0) C.1 C.2.1 dX11_key_16 (by decide) ?_
      exact m_zret C w (by decide) (by exact Eq.symm (((if_neg hS).trans ((if_neg h_8).trans rfl)))) dX11_key_17

def f_X11_take (v1 : Int32) (rs : Nat) (M : mm_M) : Int32 × mm_M :=
  if ¬ f_X11_isKey v1 = 0 ∧ 32 ≤ rs then (let q1 := (v1).toNatClampNeg
  let M_4 := mm_cp M 2 0 (4 + q1) 0 32
  ((1 : Int32), M_4)) else (if (f_X11_isKey (v1)) = (0 : Int32) then (((0 : Int32), M)) else (((0 : Int32), M)))
theorem w_f_X11_take (v1 : Int32) (rs : Nat) (M : mm_M) : mm_fr2 [4 + v1.toNatClampNeg] M (f_X11_take v1 rs M) := by
  unfold f_X11_take
  exact (mm_fr_ite2 (fun _ => (mm_fr_cp (by simp) (mm_fr_refl _ _)).b) (fun _ => (mm_fr_ite2 (fun _ => (mm_fr_refl _ _).b) (fun _ => (mm_fr_refl _ _).b))))
set_option maxHeartbeats 4000000 in
set_option maxRecDepth 100000 in
theorem c_X11_take (l : Launch) (D : va_G) (b0 : Nat) (r : Nat → Nat) (M : mm_M) (v1 : Int32) (rs : Nat) (hrs : rs ≤ 1000) (h3 : M.1 0 3 = nI rs) : mm_Mi l yX11_take cX11_take 2 .boolean 1 48 D b0 r [.ref (r (0)), .int (v1)] M (fun v M' => (v, M') = f_X11_take v1 rs M) := by
  refine mm_enter (cc := cX11_take) (nL := 2) (ret := (some .boolean)) (by decide) (Nat.le_of_ble_eq_true rfl) ?_
  intro p e s m args below meth c C w ls hl
  have hl : lv_has ls 2 [(0, .ref (r (0))), (1, .int (v1))] := hl
  by_cases hS : ¬ f_X11_isKey v1 = 0 ∧ 32 ≤ rs
  · obtain ⟨q1, eq1⟩ : ∃ zz, zz = (v1).toNatClampNeg := ⟨_, rfl⟩
    obtain ⟨hvq1, hbq1⟩ : v1 = nI q1 ∧ q1 < 8 := by rw [eq1]; exact g_isKey hS.1
    rw [hvq1] at hl
    have hTq1 : ¬ f_X11_isKey (nI q1) = 0 := by rw [← hvq1]; exact hS.1
    have hS2 := hS.2
    refine lv_iload_n C.1 C.2.1 dX11_take_0 rfl (lv_at hl 1 rfl) ?_
    refine m_csi C w hl csX11_61 (As := [.int (nI (q1))]) (rest := []) (c_X11_isKey l D b0 r M (nI (q1)) ) rfl rfl (Nat.le_of_ble_eq_true rfl) ⟨Nat.le_of_ble_eq_true rfl, Nat.le_of_ble_eq_true rfl⟩ ⟨Nat.zero_le _, Nat.zero_le _⟩ dX11_take_1 (fun v_1 M9 H locs e9 w => ?_)
    obtain ⟨ev_1, e9⟩ := e9
    rw [e9] at w
    subst ev_1
    refine lv_if_eq (tgt := 16) C.1 C.2.1 dX11_take_4 (by decide) (fun h_2 => absurd h_2 hTq1) (fun _ => ?_)
    refine lv_aload_n C.1 C.2.1 dX11_take_7 rfl (lv_at hl 0 rfl) ?_
    refine m_get C w (k := 0) (j := 3) (v := .int (M.1 0 3)) flX11_20 (by decide) rfl rfl dX11_take_8 ?_
    refine m_i (y := nI (rs)) h3 ?_
    refine lv_bipush (v := 32) C.1 C.2.1 dX11_take_11 (by decide) ?_
    refine m_icmp_ge (tgt := 18) (a := rs) (b := 32) C (by omega) (by omega) dX11_take_13 (by decide) (fun _ => ?_) (fun h_3 => absurd h_3 (by omega))
    refine lv_aload_n C.1 C.2.1 dX11_take_18 rfl (lv_at hl 0 rfl) ?_
    refine m_get C w (k := 0) (j := 2) (v := .ref (r (2))) flX11_17 (by decide) rfl rfl dX11_take_19 ?_
    refine lv_iconst (v := 0) C.1 C.2.1 dX11_take_22 (by decide) ?_
    refine lv_aload_n C.1 C.2.1 dX11_take_23 rfl (lv_at hl 0 rfl) ?_
    refine m_get C w (k := 0) (j := 4) (v := .ref (r (3))) flX11_25 (by decide) rfl rfl dX11_take_24 ?_
    refine lv_iload_n C.1 C.2.1 dX11_take_27 rfl (lv_at hl 1 rfl) ?_
    refine m_aald C w (k := 3) (i := q1) (n := 8) (wr := true) (q := 4 + q1) (by decide) rfl rfl (by omega) (by decide) (mm_key_ds q1 (by omega)) dX11_take_28 ?_
    refine lv_iconst (v := 0) C.1 C.2.1 dX11_take_29 (by decide) ?_
    refine lv_bipush (v := 32) C.1 C.2.1 dX11_take_30 (by decide) ?_
    refine m_cpb C w hl (k := 2) (k2 := 4 + q1) (sp := 0) (dp := 0) (n := 32) (by decide) rfl (by decide) (by omega) (mm_key q1 (by omega)) (by decide) acX11_55 (by omega) (by omega) (Nat.le_of_ble_eq_true rfl) (Nat.le_of_ble_eq_true rfl) dX11_take_32 (fun H locs w => ?_)
    obtain ⟨M_4, eM_4⟩ : ∃ zz, zz = mm_cp M 2 0 (4 + q1) 0 32 := ⟨_, rfl⟩
    rw [← eM_4] at w
    refine lv_iconst (v := 1) C.1 C.2.1 dX11_take_35 (by decide) ?_
    exact m_zret C w (by decide) (by subst eq1 eM_4; exact Eq.symm (((if_pos hS).trans rfl))) dX11_take_36
  · refine lv_iload_n C.1 C.2.1 dX11_take_0 rfl (lv_at hl 1 rfl) ?_
    refine m_csi C w hl csX11_61 (As := [.int (v1)]) (rest := []) (c_X11_isKey l D b0 r M (v1) ) rfl rfl (Nat.le_of_ble_eq_true rfl) ⟨Nat.le_of_ble_eq_true rfl, Nat.le_of_ble_eq_true rfl⟩ ⟨Nat.zero_le _, Nat.zero_le _⟩ dX11_take_1 (fun v_5 M9 H locs e9 w => ?_)
    obtain ⟨ev_5, e9⟩ := e9
    rw [e9] at w
    subst ev_5
    refine lv_if_eq (tgt := 16) C.1 C.2.1 dX11_take_4 (by decide) (fun h_6 => ?_) (fun h_6 => ?_)
    · refine lv_iconst (v := 0) C.1 C.2.1 dX11_take_16 (by decide) ?_
      exact m_zret C w (by decide) (by exact Eq.symm (((if_neg hS).trans ((if_pos h_6).trans rfl)))) dX11_take_17
    · refine lv_aload_n C.1 C.2.1 dX11_take_7 rfl (lv_at hl 0 rfl) ?_
      refine m_get C w (k := 0) (j := 3) (v := .int (M.1 0 3)) flX11_20 (by decide) rfl rfl dX11_take_8 ?_
      refine m_i (y := nI (rs)) h3 ?_
      refine lv_bipush (v := 32) C.1 C.2.1 dX11_take_11 (by decide) ?_
      refine m_icmp_ge (tgt := 18) (a := rs) (b := 32) C (by omega) (by omega) dX11_take_13 (by decide) (fun h_7 => absurd h_7 (fun q => hS ⟨h_6, q⟩)) (fun _ => ?_)
      refine lv_iconst (v := 0) C.1 C.2.1 dX11_take_16 (by decide) ?_
      exact m_zret C w (by decide) (by exact Eq.symm (((if_neg hS).trans ((if_neg h_6).trans rfl)))) dX11_take_17

def f_X11_hash (v1 : Int32) (ts : Nat) (M : mm_M) : Int32 × mm_M :=
  if ¬ f_X11_isOnTape v1 M = 0 then (let q1 := (v1).toNatClampNeg
  let M_3 := f_X11_emptyTape M
  let M_4 := f_X8_reset M_3
  let M_5 := f_X8_absorb 1 0 q1 0 M_4
  let M_6 := f_X8_finish 2 ((0 + q1) % 64) M_5
  let v_8 := (f_X11_tell (32 : Int32) M_6).1
  let M_7 := (f_X11_tell (32 : Int32) M_6).2
  ((v_8), M_7)) else (((-2 : Int32), M))
theorem w_f_X11_hash (v1 : Int32) (ts : Nat) (M : mm_M) : mm_fr2 [0, 24, 23, 26, 25, 2] M (f_X11_hash v1 ts M) := by
  unfold f_X11_hash
  exact (mm_fr_ite2 (fun _ => ((w_f_X11_tell _ _).m.on (by simp) ((w_f_X8_finish _ _ _).on (by simp) ((w_f_X8_absorb _ _ _ _ _).on (by simp) ((w_f_X8_reset _).on (by simp) ((w_f_X11_emptyTape _).on (by simp) (mm_fr_refl _ _)))))).b) (fun _ => (mm_fr_refl _ _).b))
set_option maxHeartbeats 4000000 in
set_option maxRecDepth 100000 in
theorem c_X11_hash (l : Launch) (D : va_G) (b0 : Nat) (r : Nat → Nat) (M : mm_M) (v1 : Int32) (ts : Nat) (hts : ts ≤ 1000) (h1 : M.1 0 1 = nI ts) : mm_Mi l yX11_hash cX11_hash 2 .int 3 79 D b0 r [.ref (r (0)), .int (v1)] M (fun v M' => (v, M') = f_X11_hash v1 ts M) := by
  refine mm_enter (cc := cX11_hash) (nL := 2) (ret := (some .int)) (by decide) (Nat.le_of_ble_eq_true rfl) ?_
  intro p e s m args below meth c C w ls hl
  have hl : lv_has ls 2 [(0, .ref (r (0))), (1, .int (v1))] := hl
  by_cases hS : ¬ f_X11_isOnTape v1 M = 0
  · obtain ⟨q1, eq1⟩ : ∃ zz, zz = (v1).toNatClampNeg := ⟨_, rfl⟩
    obtain ⟨hvq1, hbq1⟩ : v1 = nI q1 ∧ q1 ≤ ts := by rw [eq1]; exact g_isOnTape hts h1 hS
    rw [hvq1] at hl
    have hTq1 : ¬ f_X11_isOnTape (nI q1) M = 0 := by rw [← hvq1]; exact hS
    refine lv_aload_n C.1 C.2.1 dX11_hash_0 rfl (lv_at hl 0 rfl) ?_
    refine lv_iload_n C.1 C.2.1 dX11_hash_1 rfl (lv_at hl 1 rfl) ?_
    refine m_cvi C w hl cvX11_65 (k := 0) (by decide) rfl (q := (RX11, TX11, 7)) rfl rfl (As := [.int (nI (q1))]) (rest := []) (c_X11_isOnTape l D b0 r M (nI (q1)) ) rfl rfl (Nat.le_of_ble_eq_true rfl) ⟨Nat.le_of_ble_eq_true rfl, Nat.le_of_ble_eq_true rfl⟩ ⟨Nat.zero_le _, Nat.zero_le _⟩ dX11_hash_2 (fun v_1 M9 H locs e9 w => ?_)
    obtain ⟨ev_1, e9⟩ := e9
    rw [e9] at w
    subst ev_1
    refine lv_if_ne (tgt := 11) C.1 C.2.1 dX11_hash_5 (by decide) (fun _ => ?_) (fun h_2 => absurd h_2 hTq1)
    refine lv_aload_n C.1 C.2.1 dX11_hash_11 rfl (lv_at hl 0 rfl) ?_
    refine m_cvv C w hl cvX11_68 (k := 0) (by decide) rfl (q := (RX11, TX11, 7)) rfl rfl (As := []) (rest := []) (c_X11_emptyTape l D b0 r M  ) rfl rfl (Nat.le_of_ble_eq_true rfl) ⟨Nat.le_of_ble_eq_true rfl, Nat.le_of_ble_eq_true rfl⟩ ⟨Nat.zero_le _, Nat.zero_le _⟩ dX11_hash_12 (fun M_3 H locs eM_3 w => ?_)
    refine lv_aload_n C.1 C.2.1 dX11_hash_15 rfl (lv_at hl 0 rfl) ?_
    refine m_get C w (k := 0) (j := 5) (v := .ref (r (12))) flX11_31 (by decide) rfl rfl dX11_hash_16 ?_
    refine m_get C w (k := 12) (j := 1) (v := .ref (r (23))) flX11_89 (by decide) rfl rfl dX11_hash_19 ?_
    refine m_cvv C w hl cvX11_93 (k := 23) (by decide) rfl (q := (RX8, TX8, 5)) rfl rfl (As := []) (rest := []) (c_X8_reset l D b0 r M_3  ) rfl rfl (Nat.le_of_ble_eq_true rfl) ⟨Nat.le_of_ble_eq_true rfl, Nat.le_of_ble_eq_true rfl⟩ ⟨Nat.zero_le _, Nat.zero_le _⟩ dX11_hash_22 (fun M_4 H locs eM_4 w => ?_)
    refine lv_aload_n C.1 C.2.1 dX11_hash_25 rfl (lv_at hl 0 rfl) ?_
    refine m_get C w (k := 0) (j := 5) (v := .ref (r (12))) flX11_31 (by decide) rfl rfl dX11_hash_26 ?_
    refine m_get C w (k := 12) (j := 1) (v := .ref (r (23))) flX11_89 (by decide) rfl rfl dX11_hash_29 ?_
    refine lv_aload_n C.1 C.2.1 dX11_hash_32 rfl (lv_at hl 0 rfl) ?_
    refine m_get C w (k := 0) (j := 0) (v := .ref (r (1))) flX11_9 (by decide) rfl rfl dX11_hash_33 ?_
    refine lv_iconst (v := 0) C.1 C.2.1 dX11_hash_36 (by decide) ?_
    refine lv_iload_n C.1 C.2.1 dX11_hash_37 rfl (lv_at hl 1 rfl) ?_
    refine m_cvv C w hl cvX11_98 (k := 23) (by decide) rfl (q := (RX8, TX8, 5)) rfl rfl (As := [.ref (r (1)), .int 0, .int (nI (q1))]) (rest := []) (c_X8_absorb l D b0 r M_4 1 0 q1 0 (by decide) rfl (by decide) (by omega) (by omega) (by omega) (by rw [eM_4]; exact r_X8_reset _)) rfl rfl (Nat.le_of_ble_eq_true rfl) ⟨Nat.le_of_ble_eq_true rfl, Nat.le_of_ble_eq_true rfl⟩ ⟨Nat.zero_le _, Nat.zero_le _⟩ dX11_hash_38 (fun M_5 H locs eM_5 w => ?_)
    refine lv_aload_n C.1 C.2.1 dX11_hash_41 rfl (lv_at hl 0 rfl) ?_
    refine m_get C w (k := 0) (j := 5) (v := .ref (r (12))) flX11_31 (by decide) rfl rfl dX11_hash_42 ?_
    refine m_get C w (k := 12) (j := 1) (v := .ref (r (23))) flX11_89 (by decide) rfl rfl dX11_hash_45 ?_
    refine lv_aload_n C.1 C.2.1 dX11_hash_48 rfl (lv_at hl 0 rfl) ?_
    refine m_get C w (k := 0) (j := 2) (v := .ref (r (2))) flX11_17 (by decide) rfl rfl dX11_hash_49 ?_
    refine m_cvv C w hl cvX11_102 (k := 23) (by decide) rfl (q := (RX8, TX8, 5)) rfl rfl (As := [.ref (r (2))]) (rest := []) (c_X8_finish l D b0 r M_5 2 ((0 + q1) % 64) (by decide) rfl (by decide) (by omega) (by omega) (by rw [eM_5]; exact r_X8_absorb _ _ _ _ (by decide) _ (by rw [eM_4]; exact r_X8_reset _))) rfl rfl (Nat.le_of_ble_eq_true rfl) ⟨Nat.le_of_ble_eq_true rfl, Nat.le_of_ble_eq_true rfl⟩ ⟨Nat.zero_le _, Nat.zero_le _⟩ dX11_hash_52 (fun M_6 H locs eM_6 w => ?_)
    refine lv_aload_n C.1 C.2.1 dX11_hash_55 rfl (lv_at hl 0 rfl) ?_
    refine lv_bipush (v := 32) C.1 C.2.1 dX11_hash_56 (by decide) ?_
    refine m_cvi C w hl cvX11_106 (k := 0) (by decide) rfl (q := (RX11, TX11, 7)) rfl rfl (As := [.int 32]) (rest := []) (c_X11_tell l D b0 r M_6 (32 : Int32) ) rfl rfl (Nat.le_of_ble_eq_true rfl) ⟨Nat.le_of_ble_eq_true rfl, Nat.le_of_ble_eq_true rfl⟩ ⟨Nat.zero_le _, Nat.zero_le _⟩ dX11_hash_58 (fun v_8 M_7 H locs e9 w => ?_)
    obtain ⟨ev_8, eM_7⟩ : v_8 = (f_X11_tell (32 : Int32) M_6).1 ∧ M_7 = (f_X11_tell (32 : Int32) M_6).2 := ⟨congrArg Prod.fst e9, congrArg Prod.snd e9⟩
    clear e9
    exact m_iret C w (by subst eq1 eM_3 eM_4 eM_5 eM_6 ev_8 eM_7; exact Eq.symm (((if_pos hS).trans rfl))) dX11_hash_61
  · refine lv_aload_n C.1 C.2.1 dX11_hash_0 rfl (lv_at hl 0 rfl) ?_
    refine lv_iload_n C.1 C.2.1 dX11_hash_1 rfl (lv_at hl 1 rfl) ?_
    refine m_cvi C w hl cvX11_65 (k := 0) (by decide) rfl (q := (RX11, TX11, 7)) rfl rfl (As := [.int (v1)]) (rest := []) (c_X11_isOnTape l D b0 r M (v1) ) rfl rfl (Nat.le_of_ble_eq_true rfl) ⟨Nat.le_of_ble_eq_true rfl, Nat.le_of_ble_eq_true rfl⟩ ⟨Nat.zero_le _, Nat.zero_le _⟩ dX11_hash_2 (fun v_9 M9 H locs e9 w => ?_)
    obtain ⟨ev_9, e9⟩ := e9
    rw [e9] at w
    subst ev_9
    refine lv_if_ne (tgt := 11) C.1 C.2.1 dX11_hash_5 (by decide) (fun h_10 => absurd h_10 (fun q => hS q)) (fun _ => ?_)
    refine lv_bipush (v := (-2)) C.1 C.2.1 dX11_hash_8 (by decide) ?_
    exact m_iret C w (by exact Eq.symm (((if_neg hS).trans rfl))) dX11_hash_10

def f_X11_mac (v1 : Int32) (v2 : Int32) (ts : Nat) (M : mm_M) : Int32 × mm_M :=
  if ¬ f_X11_isKey v1 = 0 ∧ ¬ f_X11_isOnTape v2 M = 0 then (let q1 := (v1).toNatClampNeg
  let q2 := (v2).toNatClampNeg
  let M_5 := f_X11_emptyTape M
  let M_6 := f_X5_begin (4 + q1) M_5
  let M_7 := f_X5_absorb 1 0 q2 0 M_6
  let M_8 := f_X5_finish 2 ((0 + q2) % 64) M_7
  let v_10 := (f_X11_tell (32 : Int32) M_8).1
  let M_9 := (f_X11_tell (32 : Int32) M_8).2
  ((v_10), M_9)) else (if (f_X11_isKey (v1)) = (0 : Int32) then (((-2 : Int32), M)) else (((-2 : Int32), M)))
theorem w_f_X11_mac (v1 : Int32) (v2 : Int32) (ts : Nat) (M : mm_M) : mm_fr2 [0, 24, 23, 26, 25, 28, 29, 2] M (f_X11_mac v1 v2 ts M) := by
  unfold f_X11_mac
  exact (mm_fr_ite2 (fun _ => ((w_f_X11_tell _ _).m.on (by simp) ((w_f_X5_finish _ _ _).on (by simp) ((w_f_X5_absorb _ _ _ _ _).on (by simp) ((w_f_X5_begin _ _).on (by simp) ((w_f_X11_emptyTape _).on (by simp) (mm_fr_refl _ _)))))).b) (fun _ => (mm_fr_ite2 (fun _ => (mm_fr_refl _ _).b) (fun _ => (mm_fr_refl _ _).b))))
set_option maxHeartbeats 4000000 in
set_option maxRecDepth 100000 in
theorem c_X11_mac (l : Launch) (D : va_G) (b0 : Nat) (r : Nat → Nat) (M : mm_M) (v1 : Int32) (v2 : Int32) (ts : Nat) (hts : ts ≤ 1000) (h1 : M.1 0 1 = nI ts) : mm_Mi l yX11_mac cX11_mac 3 .int 4 102 D b0 r [.ref (r (0)), .int (v1), .int (v2)] M (fun v M' => (v, M') = f_X11_mac v1 v2 ts M) := by
  refine mm_enter (cc := cX11_mac) (nL := 3) (ret := (some .int)) (by decide) (Nat.le_of_ble_eq_true rfl) ?_
  intro p e s m args below meth c C w ls hl
  have hl : lv_has ls 3 [(0, .ref (r (0))), (1, .int (v1)), (2, .int (v2))] := hl
  by_cases hS : ¬ f_X11_isKey v1 = 0 ∧ ¬ f_X11_isOnTape v2 M = 0
  · obtain ⟨q1, eq1⟩ : ∃ zz, zz = (v1).toNatClampNeg := ⟨_, rfl⟩
    obtain ⟨hvq1, hbq1⟩ : v1 = nI q1 ∧ q1 < 8 := by rw [eq1]; exact g_isKey hS.1
    rw [hvq1] at hl
    obtain ⟨q2, eq2⟩ : ∃ zz, zz = (v2).toNatClampNeg := ⟨_, rfl⟩
    obtain ⟨hvq2, hbq2⟩ : v2 = nI q2 ∧ q2 ≤ ts := by rw [eq2]; exact g_isOnTape hts h1 hS.2
    rw [hvq2] at hl
    have hTq1 : ¬ f_X11_isKey (nI q1) = 0 := by rw [← hvq1]; exact hS.1
    have hTq2 : ¬ f_X11_isOnTape (nI q2) M = 0 := by rw [← hvq2]; exact hS.2
    refine lv_iload_n C.1 C.2.1 dX11_mac_0 rfl (lv_at hl 1 rfl) ?_
    refine m_csi C w hl csX11_61 (As := [.int (nI (q1))]) (rest := []) (c_X11_isKey l D b0 r M (nI (q1)) ) rfl rfl (Nat.le_of_ble_eq_true rfl) ⟨Nat.le_of_ble_eq_true rfl, Nat.le_of_ble_eq_true rfl⟩ ⟨Nat.zero_le _, Nat.zero_le _⟩ dX11_mac_1 (fun v_1 M9 H locs e9 w => ?_)
    obtain ⟨ev_1, e9⟩ := e9
    rw [e9] at w
    subst ev_1
    refine lv_if_eq (tgt := 15) C.1 C.2.1 dX11_mac_4 (by decide) (fun h_2 => absurd h_2 hTq1) (fun _ => ?_)
    refine lv_aload_n C.1 C.2.1 dX11_mac_7 rfl (lv_at hl 0 rfl) ?_
    refine lv_iload_n C.1 C.2.1 dX11_mac_8 rfl (lv_at hl 2 rfl) ?_
    refine m_cvi C w hl cvX11_65 (k := 0) (by decide) rfl (q := (RX11, TX11, 7)) rfl rfl (As := [.int (nI (q2))]) (rest := []) (c_X11_isOnTape l D b0 r M (nI (q2)) ) rfl rfl (Nat.le_of_ble_eq_true rfl) ⟨Nat.le_of_ble_eq_true rfl, Nat.le_of_ble_eq_true rfl⟩ ⟨Nat.zero_le _, Nat.zero_le _⟩ dX11_mac_9 (fun v_3 M9 H locs e9 w => ?_)
    obtain ⟨ev_3, e9⟩ := e9
    rw [e9] at w
    subst ev_3
    refine lv_if_ne (tgt := 18) C.1 C.2.1 dX11_mac_12 (by decide) (fun _ => ?_) (fun h_4 => absurd h_4 hTq2)
    refine lv_aload_n C.1 C.2.1 dX11_mac_18 rfl (lv_at hl 0 rfl) ?_
    refine m_cvv C w hl cvX11_68 (k := 0) (by decide) rfl (q := (RX11, TX11, 7)) rfl rfl (As := []) (rest := []) (c_X11_emptyTape l D b0 r M  ) rfl rfl (Nat.le_of_ble_eq_true rfl) ⟨Nat.le_of_ble_eq_true rfl, Nat.le_of_ble_eq_true rfl⟩ ⟨Nat.zero_le _, Nat.zero_le _⟩ dX11_mac_19 (fun M_5 H locs eM_5 w => ?_)
    refine lv_aload_n C.1 C.2.1 dX11_mac_22 rfl (lv_at hl 0 rfl) ?_
    refine m_get C w (k := 0) (j := 5) (v := .ref (r (12))) flX11_31 (by decide) rfl rfl dX11_mac_23 ?_
    refine m_get C w (k := 12) (j := 2) (v := .ref (r (27))) flX11_110 (by decide) rfl rfl dX11_mac_26 ?_
    refine lv_aload_n C.1 C.2.1 dX11_mac_29 rfl (lv_at hl 0 rfl) ?_
    refine m_get C w (k := 0) (j := 4) (v := .ref (r (3))) flX11_25 (by decide) rfl rfl dX11_mac_30 ?_
    refine lv_iload_n C.1 C.2.1 dX11_mac_33 rfl (lv_at hl 1 rfl) ?_
    refine m_aald C w (k := 3) (i := q1) (n := 8) (wr := true) (q := 4 + q1) (by decide) rfl rfl (by omega) (by decide) (mm_key_ds q1 (by omega)) dX11_mac_34 ?_
    refine m_cvv C w hl cvX11_114 (k := 27) (by decide) rfl (q := (RX5, TX5, 4)) rfl rfl (As := [.ref (r (4 + q1))]) (rest := []) (c_X5_begin l D b0 r M_5 (4 + q1) (by omega) (mm_key q1 (by omega)) (by decide) (by omega)) rfl rfl (Nat.le_of_ble_eq_true rfl) ⟨Nat.le_of_ble_eq_true rfl, Nat.le_of_ble_eq_true rfl⟩ ⟨Nat.zero_le _, Nat.zero_le _⟩ dX11_mac_35 (fun M_6 H locs eM_6 w => ?_)
    refine lv_aload_n C.1 C.2.1 dX11_mac_38 rfl (lv_at hl 0 rfl) ?_
    refine m_get C w (k := 0) (j := 5) (v := .ref (r (12))) flX11_31 (by decide) rfl rfl dX11_mac_39 ?_
    refine m_get C w (k := 12) (j := 2) (v := .ref (r (27))) flX11_110 (by decide) rfl rfl dX11_mac_42 ?_
    refine lv_aload_n C.1 C.2.1 dX11_mac_45 rfl (lv_at hl 0 rfl) ?_
    refine m_get C w (k := 0) (j := 0) (v := .ref (r (1))) flX11_9 (by decide) rfl rfl dX11_mac_46 ?_
    refine lv_iconst (v := 0) C.1 C.2.1 dX11_mac_49 (by decide) ?_
    refine lv_iload_n C.1 C.2.1 dX11_mac_50 rfl (lv_at hl 2 rfl) ?_
    refine m_cvv C w hl cvX11_119 (k := 27) (by decide) rfl (q := (RX5, TX5, 4)) rfl rfl (As := [.ref (r (1)), .int 0, .int (nI (q2))]) (rest := []) (c_X5_absorb l D b0 r M_6 1 0 q2 0 (by decide) rfl (by decide) (by omega) (by omega) (by omega) (by rw [eM_6]; exact r_X5_begin _ _)) rfl rfl (Nat.le_of_ble_eq_true rfl) ⟨Nat.le_of_ble_eq_true rfl, Nat.le_of_ble_eq_true rfl⟩ ⟨Nat.zero_le _, Nat.zero_le _⟩ dX11_mac_51 (fun M_7 H locs eM_7 w => ?_)
    refine lv_aload_n C.1 C.2.1 dX11_mac_54 rfl (lv_at hl 0 rfl) ?_
    refine m_get C w (k := 0) (j := 5) (v := .ref (r (12))) flX11_31 (by decide) rfl rfl dX11_mac_55 ?_
    refine m_get C w (k := 12) (j := 2) (v := .ref (r (27))) flX11_110 (by decide) rfl rfl dX11_mac_58 ?_
    refine lv_aload_n C.1 C.2.1 dX11_mac_61 rfl (lv_at hl 0 rfl) ?_
    refine m_get C w (k := 0) (j := 2) (v := .ref (r (2))) flX11_17 (by decide) rfl rfl dX11_mac_62 ?_
    refine m_cvv C w hl cvX11_120 (k := 27) (by decide) rfl (q := (RX5, TX5, 4)) rfl rfl (As := [.ref (r (2))]) (rest := []) (c_X5_finish l D b0 r M_7 2 ((0 + q2) % 64) (by decide) rfl (by decide) (by omega) (by omega) (by rw [eM_7]; exact r_X5_absorb _ _ _ _ (by omega) _ (by rw [eM_6]; exact r_X5_begin _ _))) rfl rfl (Nat.le_of_ble_eq_true rfl) ⟨Nat.le_of_ble_eq_true rfl, Nat.le_of_ble_eq_true rfl⟩ ⟨Nat.zero_le _, Nat.zero_le _⟩ dX11_mac_65 (fun M_8 H locs eM_8 w => ?_)
    refine lv_aload_n C.1 C.2.1 dX11_mac_68 rfl (lv_at hl 0 rfl) ?_
    refine lv_bipush (v := 32) C.1 C.2.1 dX11_mac_69 (by decide) ?_
    refine m_cvi C w hl cvX11_106 (k := 0) (by decide) rfl (q := (RX11, TX11, 7)) rfl rfl (As := [.int 32]) (rest := []) (c_X11_tell l D b0 r M_8 (32 : Int32) ) rfl rfl (Nat.le_of_ble_eq_true rfl) ⟨Nat.le_of_ble_eq_true rfl, Nat.le_of_ble_eq_true rfl⟩ ⟨Nat.zero_le _, Nat.zero_le _⟩ dX11_mac_71 (fun v_10 M_9 H locs e9 w => ?_)
    obtain ⟨ev_10, eM_9⟩ : v_10 = (f_X11_tell (32 : Int32) M_8).1 ∧ M_9 = (f_X11_tell (32 : Int32) M_8).2 := ⟨congrArg Prod.fst e9, congrArg Prod.snd e9⟩
    clear e9
    exact m_iret C w (by subst eq1 eq2 eM_5 eM_6 eM_7 eM_8 ev_10 eM_9; exact Eq.symm (((if_pos hS).trans rfl))) dX11_mac_74
  · refine lv_iload_n C.1 C.2.1 dX11_mac_0 rfl (lv_at hl 1 rfl) ?_
    refine m_csi C w hl csX11_61 (As := [.int (v1)]) (rest := []) (c_X11_isKey l D b0 r M (v1) ) rfl rfl (Nat.le_of_ble_eq_true rfl) ⟨Nat.le_of_ble_eq_true rfl, Nat.le_of_ble_eq_true rfl⟩ ⟨Nat.zero_le _, Nat.zero_le _⟩ dX11_mac_1 (fun v_11 M9 H locs e9 w => ?_)
    obtain ⟨ev_11, e9⟩ := e9
    rw [e9] at w
    subst ev_11
    refine lv_if_eq (tgt := 15) C.1 C.2.1 dX11_mac_4 (by decide) (fun h_12 => ?_) (fun h_12 => ?_)
    · refine lv_bipush (v := (-2)) C.1 C.2.1 dX11_mac_15 (by decide) ?_
      exact m_iret C w (by exact Eq.symm (((if_neg hS).trans ((if_pos h_12).trans rfl)))) dX11_mac_17
    · refine lv_aload_n C.1 C.2.1 dX11_mac_7 rfl (lv_at hl 0 rfl) ?_
      refine lv_iload_n C.1 C.2.1 dX11_mac_8 rfl (lv_at hl 2 rfl) ?_
      refine m_cvi C w hl cvX11_65 (k := 0) (by decide) rfl (q := (RX11, TX11, 7)) rfl rfl (As := [.int (v2)]) (rest := []) (c_X11_isOnTape l D b0 r M (v2) ) rfl rfl (Nat.le_of_ble_eq_true rfl) ⟨Nat.le_of_ble_eq_true rfl, Nat.le_of_ble_eq_true rfl⟩ ⟨Nat.zero_le _, Nat.zero_le _⟩ dX11_mac_9 (fun v_13 M9 H locs e9 w => ?_)
      obtain ⟨ev_13, e9⟩ := e9
      rw [e9] at w
      subst ev_13
      refine lv_if_ne (tgt := 18) C.1 C.2.1 dX11_mac_12 (by decide) (fun h_14 => absurd h_14 (fun q => hS ⟨h_12, q⟩)) (fun _ => ?_)
      refine lv_bipush (v := (-2)) C.1 C.2.1 dX11_mac_15 (by decide) ?_
      exact m_iret C w (by exact Eq.symm (((if_neg hS).trans ((if_neg h_12).trans rfl)))) dX11_mac_17
