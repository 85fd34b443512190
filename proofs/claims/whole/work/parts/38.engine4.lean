def f_X11_curve_B1 (M : mm_M) (q1 : Nat) : Int32 × mm_M :=
  if ¬ (f_X11_isOnTape (32 : Int32) M) = (0 : Int32) then (let M_6 := f_X11_emptyTape M
  let M_7 := f_X4_multiply (4 + q1) 1 M_6
  let v_9 := (f_X11_tellRow 15 M_7).1
  let M_8 := (f_X11_tellRow 15 M_7).2
  ((v_9), M_8)) else (((-2 : Int32), M))
theorem w_f_X11_curve_B1 (M : mm_M) (q1 : Nat) : mm_fr2 [0, 14, 16, 17, 18, 19, 20, 22, 21, 15, 2] M (f_X11_curve_B1 M q1) := by
  unfold f_X11_curve_B1
  exact (mm_fr_ite2 (fun _ => ((w_f_X11_tellRow _ _).m.on (by simp) ((w_f_X4_multiply _ _ _).on (by simp) ((w_f_X11_emptyTape _).on (by simp) (mm_fr_refl _ _)))).b) (fun _ => (mm_fr_refl _ _).b))
def f_X11_curve_B2 (v2 : Int32) (M : mm_M) (q1 : Nat) : Int32 × mm_M :=
  if (v2) = (0 : Int32) then (f_X11_curve_B1 M q1) else (let M_10 := f_X4_publicKey (4 + q1) M
  let v_12 := (f_X11_tellRow 15 M_10).1
  let M_11 := (f_X11_tellRow 15 M_10).2
  ((v_12), M_11))
theorem w_f_X11_curve_B2 (v2 : Int32) (M : mm_M) (q1 : Nat) : mm_fr2 [0, 14, 16, 17, 18, 19, 20, 22, 21, 15, 2] M (f_X11_curve_B2 v2 M q1) := by
  unfold f_X11_curve_B2
  exact (mm_fr_ite2 (fun _ => ((w_f_X11_curve_B1 _ _).on (by simp) (mm_fr_refl _ _))) (fun _ => ((w_f_X11_tellRow _ _).m.on (by simp) ((w_f_X4_publicKey _ _).on (by simp) (mm_fr_refl _ _))).b))
def f_X11_curve (v1 : Int32) (v2 : Int32) (ts : Nat) (M : mm_M) : Int32 × mm_M :=
  if ¬ f_X11_isKey v1 = 0 then (let q1 := (v1).toNatClampNeg
  f_X11_curve_B2 v2 M q1) else (((-2 : Int32), M))
theorem w_f_X11_curve (v1 : Int32) (v2 : Int32) (ts : Nat) (M : mm_M) : mm_fr2 [0, 14, 16, 17, 18, 19, 20, 22, 21, 15, 2] M (f_X11_curve v1 v2 ts M) := by
  unfold f_X11_curve
  exact (mm_fr_ite2 (fun _ => ((w_f_X11_curve_B2 _ _ _).on (by simp) (mm_fr_refl _ _))) (fun _ => (mm_fr_refl _ _).b))
set_option maxHeartbeats 4000000 in
set_option maxRecDepth 100000 in
theorem c_X11_curve (l : Launch) (D : va_G) (b0 : Nat) (r : Nat → Nat) (M : mm_M) (v1 : Int32) (v2 : Int32) (ts : Nat) (hts : ts ≤ 1000) (h1 : M.1 0 1 = nI ts) : mm_Mi l yX11_curve cX11_curve 3 .int 6 203 D b0 r [.ref (r (0)), .int (v1), .int (v2)] M (fun v M' => (v, M') = f_X11_curve v1 v2 ts M) := by
  refine mm_enter (cc := cX11_curve) (nL := 3) (ret := (some .int)) (by decide) (Nat.le_of_ble_eq_true rfl) ?_
  intro p e s m args below meth c C w ls hl
  have hl : lv_has ls 3 [(0, .ref (r (0))), (1, .int (v1)), (2, .int (v2))] := hl
  by_cases hS : ¬ f_X11_isKey v1 = 0
  · obtain ⟨q1, eq1⟩ : ∃ zz, zz = (v1).toNatClampNeg := ⟨_, rfl⟩
    obtain ⟨hvq1, hbq1⟩ : v1 = nI q1 ∧ q1 < 8 := by rw [eq1]; exact g_isKey hS
    rw [hvq1] at hl
    have hTq1 : ¬ f_X11_isKey (nI q1) = 0 := by rw [← hvq1]; exact hS
    refine lv_iload_n C.1 C.2.1 dX11_curve_0 rfl (lv_at hl 1 rfl) ?_
    refine m_csi C w hl csX11_61 (As := [.int (nI (q1))]) (rest := []) (c_X11_isKey l D b0 r M (nI (q1)) ) rfl rfl (Nat.le_of_ble_eq_true rfl) ⟨Nat.le_of_ble_eq_true rfl, Nat.le_of_ble_eq_true rfl⟩ ⟨Nat.zero_le _, Nat.zero_le _⟩ dX11_curve_1 (fun v_1 M9 H locs e9 w => ?_)
    obtain ⟨ev_1, e9⟩ := e9
    rw [e9] at w
    subst ev_1
    refine lv_if_ne (tgt := 10) C.1 C.2.1 dX11_curve_4 (by decide) (fun _ => ?_) (fun h_2 => absurd h_2 hTq1)
    refine lv_iload_n C.1 C.2.1 dX11_curve_10 rfl (lv_at hl 2 rfl) ?_
    refine lv_if_eq (tgt := 35) C.1 C.2.1 dX11_curve_11 (by decide) (fun h_3 => ?_) (fun h_3 => ?_)
    · refine lv_aload_n C.1 C.2.1 dX11_curve_35 rfl (lv_at hl 0 rfl) ?_
      refine lv_bipush (v := 32) C.1 C.2.1 dX11_curve_36 (by decide) ?_
      refine m_cvi C w hl cvX11_65 (k := 0) (by decide) rfl (q := (RX11, TX11, 7)) rfl rfl (As := [.int 32]) (rest := []) (c_X11_isOnTape l D b0 r M (32 : Int32) ) rfl rfl (Nat.le_of_ble_eq_true rfl) ⟨Nat.le_of_ble_eq_true rfl, Nat.le_of_ble_eq_true rfl⟩ ⟨Nat.zero_le _, Nat.zero_le _⟩ dX11_curve_38 (fun v_4 M9 H locs e9 w => ?_)
      obtain ⟨ev_4, e9⟩ := e9
      rw [e9] at w
      subst ev_4
      refine lv_if_ne (tgt := 47) C.1 C.2.1 dX11_curve_41 (by decide) (fun h_5 => ?_) (fun h_5 => ?_)
      · refine lv_aload_n C.1 C.2.1 dX11_curve_47 rfl (lv_at hl 0 rfl) ?_
        refine m_cvv C w hl cvX11_68 (k := 0) (by decide) rfl (q := (RX11, TX11, 7)) rfl rfl (As := []) (rest := []) (c_X11_emptyTape l D b0 r M  ) rfl rfl (Nat.le_of_ble_eq_true rfl) ⟨Nat.le_of_ble_eq_true rfl, Nat.le_of_ble_eq_true rfl⟩ ⟨Nat.zero_le _, Nat.zero_le _⟩ dX11_curve_48 (fun M_6 H locs eM_6 w => ?_)
        refine lv_aload_n C.1 C.2.1 dX11_curve_51 rfl (lv_at hl 0 rfl) ?_
        refine lv_aload_n C.1 C.2.1 dX11_curve_52 rfl (lv_at hl 0 rfl) ?_
        refine m_get C w (k := 0) (j := 5) (v := .ref (r (12))) flX11_31 (by decide) rfl rfl dX11_curve_53 ?_
        refine m_get C w (k := 12) (j := 0) (v := .ref (r (13))) flX11_71 (by decide) rfl rfl dX11_curve_56 ?_
        refine lv_aload_n C.1 C.2.1 dX11_curve_59 rfl (lv_at hl 0 rfl) ?_
        refine m_get C w (k := 0) (j := 4) (v := .ref (r (3))) flX11_25 (by decide) rfl rfl dX11_curve_60 ?_
        refine lv_iload_n C.1 C.2.1 dX11_curve_63 rfl (lv_at hl 1 rfl) ?_
        refine m_aald C w (k := 3) (i := q1) (n := 8) (wr := true) (q := 4 + q1) (by decide) rfl rfl (by omega) (by decide) (mm_key_ds q1 (by omega)) dX11_curve_64 ?_
        refine lv_aload_n C.1 C.2.1 dX11_curve_65 rfl (lv_at hl 0 rfl) ?_
        refine m_get C w (k := 0) (j := 0) (v := .ref (r (1))) flX11_9 (by decide) rfl rfl dX11_curve_66 ?_
        refine m_cvr C w hl cvX11_85 (k := 13) (by decide) rfl (q := (RX4, TX4, 9)) rfl rfl (As := [.ref (r (4 + q1)), .ref (r (1))]) (rest := [.ref (r (0))]) (c_X4_multiply l D b0 r M_6 (4 + q1) 1 (by omega) (mm_key q1 (by omega)) (by decide) (by omega) (by decide) rfl (by decide) (by omega)) rfl rfl (Nat.le_of_ble_eq_true rfl) ⟨Nat.le_of_ble_eq_true rfl, Nat.le_of_ble_eq_true rfl⟩ ⟨Nat.zero_le _, Nat.zero_le _⟩ dX11_curve_69 (fun M_7 H locs eM_7 w => ?_)
        refine m_cvi C w hl cvX11_81 (k := 0) (by decide) rfl (q := (RX11, TX11, 7)) rfl rfl (As := [.ref (r (15))]) (rest := []) (c_X11_tellRow l D b0 r M_7 15 (by decide) rfl (by decide) (by omega)) rfl rfl (Nat.le_of_ble_eq_true rfl) ⟨Nat.le_of_ble_eq_true rfl, Nat.le_of_ble_eq_true rfl⟩ ⟨Nat.zero_le _, Nat.zero_le _⟩ dX11_curve_72 (fun v_9 M_8 H locs e9 w => ?_)
        obtain ⟨ev_9, eM_8⟩ : v_9 = (f_X11_tellRow 15 M_7).1 ∧ M_8 = (f_X11_tellRow 15 M_7).2 := ⟨congrArg Prod.fst e9, congrArg Prod.snd e9⟩
        clear e9
        exact m_iret C w (by subst eq1 eM_6 eM_7 ev_9 eM_8; exact Eq.symm (((if_pos hS).trans ((if_pos h_3).trans ((if_pos h_5).trans rfl))))) dX11_curve_75
      · refine lv_bipush (v := (-2)) C.1 C.2.1 dX11_curve_44 (by decide) ?_
        exact m_iret C w (by subst eq1; exact Eq.symm (((if_pos hS).trans ((if_pos h_3).trans ((if_neg (fun q => q h_5)).trans rfl))))) dX11_curve_46
    · refine lv_aload_n C.1 C.2.1 dX11_curve_14 rfl (lv_at hl 0 rfl) ?_
      refine lv_aload_n C.1 C.2.1 dX11_curve_15 rfl (lv_at hl 0 rfl) ?_
      refine m_get C w (k := 0) (j := 5) (v := .ref (r (12))) flX11_31 (by decide) rfl rfl dX11_curve_16 ?_
      refine m_get C w (k := 12) (j := 0) (v := .ref (r (13))) flX11_71 (by decide) rfl rfl dX11_curve_19 ?_
      refine lv_aload_n C.1 C.2.1 dX11_curve_22 rfl (lv_at hl 0 rfl) ?_
      refine m_get C w (k := 0) (j := 4) (v := .ref (r (3))) flX11_25 (by decide) rfl rfl dX11_curve_23 ?_
      refine lv_iload_n C.1 C.2.1 dX11_curve_26 rfl (lv_at hl 1 rfl) ?_
      refine m_aald C w (k := 3) (i := q1) (n := 8) (wr := true) (q := 4 + q1) (by decide) rfl rfl (by omega) (by decide) (mm_key_ds q1 (by omega)) dX11_curve_27 ?_
      refine m_cvr C w hl cvX11_75 (k := 13) (by decide) rfl (q := (RX4, TX4, 9)) rfl rfl (As := [.ref (r (4 + q1))]) (rest := [.ref (r (0))]) (c_X4_publicKey l D b0 r M (4 + q1) (by omega) (mm_key q1 (by omega)) (by decide) (by omega)) rfl rfl (Nat.le_of_ble_eq_true rfl) ⟨Nat.le_of_ble_eq_true rfl, Nat.le_of_ble_eq_true rfl⟩ ⟨Nat.zero_le _, Nat.zero_le _⟩ dX11_curve_28 (fun M_10 H locs eM_10 w => ?_)
      refine m_cvi C w hl cvX11_81 (k := 0) (by decide) rfl (q := (RX11, TX11, 7)) rfl rfl (As := [.ref (r (15))]) (rest := []) (c_X11_tellRow l D b0 r M_10 15 (by decide) rfl (by decide) (by omega)) rfl rfl (Nat.le_of_ble_eq_true rfl) ⟨Nat.le_of_ble_eq_true rfl, Nat.le_of_ble_eq_true rfl⟩ ⟨Nat.zero_le _, Nat.zero_le _⟩ dX11_curve_31 (fun v_12 M_11 H locs e9 w => ?_)
      obtain ⟨ev_12, eM_11⟩ : v_12 = (f_X11_tellRow 15 M_10).1 ∧ M_11 = (f_X11_tellRow 15 M_10).2 := ⟨congrArg Prod.fst e9, congrArg Prod.snd e9⟩
      clear e9
      exact m_iret C w (by subst eq1 eM_10 ev_12 eM_11; exact Eq.symm (((if_pos hS).trans ((if_neg h_3).trans rfl)))) dX11_curve_34
  · refine lv_iload_n C.1 C.2.1 dX11_curve_0 rfl (lv_at hl 1 rfl) ?_
    refine m_csi C w hl csX11_61 (As := [.int (v1)]) (rest := []) (c_X11_isKey l D b0 r M (v1) ) rfl rfl (Nat.le_of_ble_eq_true rfl) ⟨Nat.le_of_ble_eq_true rfl, Nat.le_of_ble_eq_true rfl⟩ ⟨Nat.zero_le _, Nat.zero_le _⟩ dX11_curve_1 (fun v_13 M9 H locs e9 w => ?_)
    obtain ⟨ev_13, e9⟩ := e9
    rw [e9] at w
    subst ev_13
    refine lv_if_ne (tgt := 10) C.1 C.2.1 dX11_curve_4 (by decide) (fun h_14 => absurd h_14 (fun q => hS q)) (fun _ => ?_)
    refine lv_bipush (v := (-2)) C.1 C.2.1 dX11_curve_7 (by decide) ?_
    exact m_iret C w (by exact Eq.symm (((if_neg hS).trans rfl))) dX11_curve_9

def f_X11_rekey_B1 (v2 : Int32) (M : mm_M) (q1 : Nat) : Int32 × mm_M :=
  if ¬ (f_X7_isOver (49 + 17 * q1) M) = (0 : Int32) then (let M_5 := f_X7_renewKey (49 + 17 * q1) (v2) M
  ((1 : Int32), M_5)) else (((0 : Int32), M))
theorem w_f_X11_rekey_B1 (v2 : Int32) (M : mm_M) (q1 : Nat) : mm_fr2 [34, 35, 33, 37, 40, 38, 39, 31, (((49 + 17 * q1) + 14) + 2), 41, (49 + 17 * q1) + 15, (((49 + 17 * q1) + 11) + 2), (49 + 17 * q1) + 12] M (f_X11_rekey_B1 v2 M q1) := by
  unfold f_X11_rekey_B1
  exact (mm_fr_ite2 (fun _ => ((w_f_X7_renewKey _ _ _).on (by simp) (mm_fr_refl _ _)).b) (fun _ => (mm_fr_refl _ _).b))
def f_X11_rekey (v1 : Int32) (v2 : Int32) (M : mm_M) : Int32 × mm_M :=
  if ¬ f_X11_hasBegun v1 M = 0 then (let q1 := (v1).toNatClampNeg
  f_X11_rekey_B1 v2 M q1) else (((0 : Int32), M))
theorem w_f_X11_rekey (v1 : Int32) (v2 : Int32) (M : mm_M) : mm_fr2 [34, 35, 33, 37, 40, 38, 39, 31, (((49 + 17 * v1.toNatClampNeg) + 14) + 2), 41, (49 + 17 * v1.toNatClampNeg) + 15, (((49 + 17 * v1.toNatClampNeg) + 11) + 2), (49 + 17 * v1.toNatClampNeg) + 12] M (f_X11_rekey v1 v2 M) := by
  unfold f_X11_rekey
  exact (mm_fr_ite2 (fun _ => ((w_f_X11_rekey_B1 _ _ _).on (by simp) (mm_fr_refl _ _))) (fun _ => (mm_fr_refl _ _).b))
set_option maxHeartbeats 4000000 in
set_option maxRecDepth 100000 in
theorem c_X11_rekey (l : Launch) (D : va_G) (b0 : Nat) (r : Nat → Nat) (M : mm_M) (v1 : Int32) (v2 : Int32)  : mm_Mi l yX11_rekey cX11_rekey 3 .boolean 6 164 D b0 r [.ref (r (0)), .int (v1), .int (v2)] M (fun v M' => (v, M') = f_X11_rekey v1 v2 M) := by
  refine mm_enter (cc := cX11_rekey) (nL := 3) (ret := (some .boolean)) (by decide) (Nat.le_of_ble_eq_true rfl) ?_
  intro p e s m args below meth c C w ls hl
  have hl : lv_has ls 3 [(0, .ref (r (0))), (1, .int (v1)), (2, .int (v2))] := hl
  by_cases hS : ¬ f_X11_hasBegun v1 M = 0
  · obtain ⟨q1, eq1⟩ : ∃ zz, zz = (v1).toNatClampNeg := ⟨_, rfl⟩
    obtain ⟨hvq1, hbq1⟩ : v1 = nI q1 ∧ q1 < 4 := by rw [eq1]; exact (g_hasBegun hS).1
    rw [hvq1] at hl
    have hTq1 : ¬ f_X11_hasBegun (nI q1) M = 0 := by rw [← hvq1]; exact hS
    refine lv_aload_n C.1 C.2.1 dX11_rekey_0 rfl (lv_at hl 0 rfl) ?_
    refine lv_iload_n C.1 C.2.1 dX11_rekey_1 rfl (lv_at hl 1 rfl) ?_
    refine m_cvi C w hl cvX11_152 (k := 0) (by decide) rfl (q := (RX11, TX11, 7)) rfl rfl (As := [.int (nI (q1))]) (rest := []) (c_X11_hasBegun l D b0 r M (nI (q1)) ) rfl rfl (Nat.le_of_ble_eq_true rfl) ⟨Nat.le_of_ble_eq_true rfl, Nat.le_of_ble_eq_true rfl⟩ ⟨Nat.zero_le _, Nat.zero_le _⟩ dX11_rekey_2 (fun v_1 M9 H locs e9 w => ?_)
    obtain ⟨ev_1, e9⟩ := e9
    rw [e9] at w
    subst ev_1
    refine lv_if_eq (tgt := 20) C.1 C.2.1 dX11_rekey_5 (by decide) (fun h_2 => absurd h_2 hTq1) (fun _ => ?_)
    refine lv_aload_n C.1 C.2.1 dX11_rekey_8 rfl (lv_at hl 0 rfl) ?_
    refine m_get C w (k := 0) (j := 6) (v := .ref (r (42))) flX11_37 (by decide) rfl rfl dX11_rekey_9 ?_
    refine lv_iload_n C.1 C.2.1 dX11_rekey_12 rfl (lv_at hl 1 rfl) ?_
    refine m_aald C w (k := 42) (i := q1) (n := 4) (wr := true) (q := 49 + 17 * q1) (by decide) rfl rfl (by omega) (by decide) (mm_ses_ds q1 (by omega)) dX11_rekey_13 ?_
    refine m_cvi C w hl cvX11_169 (k := 49 + 17 * q1) (by have := (mm_ses_of q1 (by omega)).1; omega) (mm_ses_of q1 (by omega)).2.2.1 (q := (RX7, TX7, 12)) rfl rfl (As := []) (rest := []) (c_X7_isOver l D b0 r M (49 + 17 * q1) (mm_ses_of q1 (by omega))) rfl rfl (Nat.le_of_ble_eq_true rfl) ⟨Nat.le_of_ble_eq_true rfl, Nat.le_of_ble_eq_true rfl⟩ ⟨Nat.zero_le _, Nat.zero_le _⟩ dX11_rekey_14 (fun v_3 M9 H locs e9 w => ?_)
    obtain ⟨ev_3, e9⟩ := e9
    rw [e9] at w
    subst ev_3
    refine lv_if_ne (tgt := 22) C.1 C.2.1 dX11_rekey_17 (by decide) (fun h_4 => ?_) (fun h_4 => ?_)
    · refine lv_aload_n C.1 C.2.1 dX11_rekey_22 rfl (lv_at hl 0 rfl) ?_
      refine m_get C w (k := 0) (j := 6) (v := .ref (r (42))) flX11_37 (by decide) rfl rfl dX11_rekey_23 ?_
      refine lv_iload_n C.1 C.2.1 dX11_rekey_26 rfl (lv_at hl 1 rfl) ?_
      refine m_aald C w (k := 42) (i := q1) (n := 4) (wr := true) (q := 49 + 17 * q1) (by decide) rfl rfl (by omega) (by decide) (mm_ses_ds q1 (by omega)) dX11_rekey_27 ?_
      refine lv_iload_n C.1 C.2.1 dX11_rekey_28 rfl (lv_at hl 2 rfl) ?_
      refine m_cvv C w hl cvX11_178 (k := 49 + 17 * q1) (by have := (mm_ses_of q1 (by omega)).1; omega) (mm_ses_of q1 (by omega)).2.2.1 (q := (RX7, TX7, 12)) rfl rfl (As := [.int (v2)]) (rest := []) (c_X7_renewKey l D b0 r M (49 + 17 * q1) (v2) (mm_ses_of q1 (by omega))) rfl rfl (Nat.le_of_ble_eq_true rfl) ⟨Nat.le_of_ble_eq_true rfl, Nat.le_of_ble_eq_true rfl⟩ ⟨Nat.zero_le _, Nat.zero_le _⟩ dX11_rekey_29 (fun M_5 H locs eM_5 w => ?_)
      refine lv_iconst (v := 1) C.1 C.2.1 dX11_rekey_32 (by decide) ?_
      exact m_zret C w (by decide) (by subst eq1 eM_5; exact Eq.symm (((if_pos hS).trans ((if_pos h_4).trans rfl)))) dX11_rekey_33
    · refine lv_iconst (v := 0) C.1 C.2.1 dX11_rekey_20 (by decide) ?_
      exact m_zret C w (by decide) (by subst eq1; exact Eq.symm (((if_pos hS).trans ((if_neg (fun q => q h_4)).trans rfl)))) dX11_rekey_21
  · refine lv_aload_n C.1 C.2.1 dX11_rekey_0 rfl (lv_at hl 0 rfl) ?_
    refine lv_iload_n C.1 C.2.1 dX11_rekey_1 rfl (lv_at hl 1 rfl) ?_
    refine m_cvi C w hl cvX11_152 (k := 0) (by decide) rfl (q := (RX11, TX11, 7)) rfl rfl (As := [.int (v1)]) (rest := []) (c_X11_hasBegun l D b0 r M (v1) ) rfl rfl (Nat.le_of_ble_eq_true rfl) ⟨Nat.le_of_ble_eq_true rfl, Nat.le_of_ble_eq_true rfl⟩ ⟨Nat.zero_le _, Nat.zero_le _⟩ dX11_rekey_2 (fun v_6 M9 H locs e9 w => ?_)
    obtain ⟨ev_6, e9⟩ := e9
    rw [e9] at w
    subst ev_6
    refine lv_if_eq (tgt := 20) C.1 C.2.1 dX11_rekey_5 (by decide) (fun _ => ?_) (fun h_7 => absurd h_7 (fun q => hS q))
    refine lv_iconst (v := 0) C.1 C.2.1 dX11_rekey_20 (by decide) ?_
    exact m_zret C w (by decide) (by exact Eq.symm (((if_neg hS).trans rfl))) dX11_rekey_21

theorem g_writes {x : Nat} {M M' : mm_M} (hM : M'.1 x = M.1 x) (h : ¬ f_X7_writesNext x M' = 0) : ¬ (3 : Int32) ≤ M.1 x 10 := by
  intro q
  apply h
  unfold f_X7_writesNext
  rw [if_pos (by rw [hM]; exact q)]
theorem g_reads {x : Nat} {M M' : mm_M} (hM : M'.1 x = M.1 x) (h : ¬ f_X7_readsNext x M' = 0) : ¬ (3 : Int32) ≤ M.1 x 10 := by
  intro q
  apply h
  unfold f_X7_readsNext
  rw [if_pos (by rw [hM]; exact q)]
theorem g_two {v : Int32} (h : v = -1 ∨ v = 0 ∨ v = 1 ∨ v = 2 ∨ v = 3) (hm : ¬ v = -1) (h0 : ¬ v = 0) (h1 : ¬ v = 1) (h3 : ¬ (3 : Int32) ≤ v) : v = 2 := by
  rcases h with h | h | h | h | h
  · exact absurd h hm
  · exact absurd h h0
  · exact absurd h h1
  · exact h
  · exact absurd (by rw [h]; decide) h3

def f_X11_write_B1 (M : mm_M) (q1 : Nat) (q2 : Nat) (M_6 : mm_M) : Int32 × mm_M :=
  if M.1 (49 + 17 * q1) 10 = 1 then (let v_14 := (f_X7_writeMessage_1 (49 + 17 * q1) q2 M_6).1
  let M_13 := (f_X7_writeMessage_1 (49 + 17 * q1) q2 M_6).2
  let v_16 := (f_X11_tell (v_14) M_13).1
  let M_15 := (f_X11_tell (v_14) M_13).2
  ((v_16), M_15)) else (let v_18 := (f_X7_writeMessage_2 (49 + 17 * q1) q2 M_6).1
  let M_17 := (f_X7_writeMessage_2 (49 + 17 * q1) q2 M_6).2
  let v_20 := (f_X11_tell (v_18) M_17).1
  let M_19 := (f_X11_tell (v_18) M_17).2
  ((v_20), M_19))
theorem w_f_X11_write_B1 (M : mm_M) (q1 : Nat) (q2 : Nat) (M_6 : mm_M) : mm_fr2 [14, 16, 17, 18, 19, 20, 22, 21, 15, 2, 24, 23, 26, 25, (((49 + 17 * q1) + 5) + 1), 28, 29, 30, (((49 + 17 * q1) + 5) + 2), (((49 + 17 * q1) + 5) + 4), (((49 + 17 * q1) + 5) + 3), 34, 35, 33, 37, 40, 38, 39, 31, 41, (49 + 17 * q1), 0, (((49 + 17 * q1) + 11) + 1), (((49 + 17 * q1) + 14) + 1), ((49 + 17 * q1) + 11), ((49 + 17 * q1) + 14)] M_6 (f_X11_write_B1 M q1 q2 M_6) := by
  unfold f_X11_write_B1
  exact (mm_fr_ite2 (fun _ => ((w_f_X11_tell _ _).m.on (by simp) ((w_f_X7_writeMessage_1 _ _ _).m.on (by simp) (mm_fr_refl _ _))).b) (fun _ => ((w_f_X11_tell _ _).m.on (by simp) ((w_f_X7_writeMessage_2 _ _ _).m.on (by simp) (mm_fr_refl _ _))).b))
def f_X11_write_B2 (M : mm_M) (q1 : Nat) (q2 : Nat) (M_6 : mm_M) : Int32 × mm_M :=
  if M.1 (49 + 17 * q1) 10 = 0 then (let v_10 := (f_X7_writeMessage_0 (49 + 17 * q1) q2 M_6).1
  let M_9 := (f_X7_writeMessage_0 (49 + 17 * q1) q2 M_6).2
  let v_12 := (f_X11_tell (v_10) M_9).1
  let M_11 := (f_X11_tell (v_10) M_9).2
  ((v_12), M_11)) else (f_X11_write_B1 M q1 q2 M_6)
theorem w_f_X11_write_B2 (M : mm_M) (q1 : Nat) (q2 : Nat) (M_6 : mm_M) : mm_fr2 [14, 16, 17, 18, 19, 20, 22, 21, 15, 2, 24, 23, 26, 25, (((49 + 17 * q1) + 5) + 1), 34, 35, 33, 37, 40, 38, 39, 31, 41, (((49 + 17 * q1) + 5) + 3), (49 + 17 * q1), 0, 28, 29, 30, (((49 + 17 * q1) + 5) + 2), (((49 + 17 * q1) + 5) + 4), (((49 + 17 * q1) + 11) + 1), (((49 + 17 * q1) + 14) + 1), ((49 + 17 * q1) + 11), ((49 + 17 * q1) + 14)] M_6 (f_X11_write_B2 M q1 q2 M_6) := by
  unfold f_X11_write_B2
  exact (mm_fr_ite2 (fun _ => ((w_f_X11_tell _ _).m.on (by simp) ((w_f_X7_writeMessage_0 _ _ _).m.on (by simp) (mm_fr_refl _ _))).b) (fun _ => ((w_f_X11_write_B1 _ _ _ _).on (by simp) (mm_fr_refl _ _))))
def f_X11_write_B3 (M : mm_M) (q1 : Nat) (q2 : Nat) (M_6 : mm_M) : Int32 × mm_M :=
  if ¬ (f_X7_writesNext (49 + 17 * q1) M_6) = (0 : Int32) then (f_X11_write_B2 M q1 q2 M_6) else (((-1 : Int32), M_6))
theorem w_f_X11_write_B3 (M : mm_M) (q1 : Nat) (q2 : Nat) (M_6 : mm_M) : mm_fr2 [14, 16, 17, 18, 19, 20, 22, 21, 15, 2, 24, 23, 26, 25, (((49 + 17 * q1) + 5) + 1), 34, 35, 33, 37, 40, 38, 39, 31, 41, (((49 + 17 * q1) + 5) + 3), (49 + 17 * q1), 0, 28, 29, 30, (((49 + 17 * q1) + 5) + 2), (((49 + 17 * q1) + 5) + 4), (((49 + 17 * q1) + 11) + 1), (((49 + 17 * q1) + 14) + 1), ((49 + 17 * q1) + 11), ((49 + 17 * q1) + 14)] M_6 (f_X11_write_B3 M q1 q2 M_6) := by
  unfold f_X11_write_B3
  exact (mm_fr_ite2 (fun _ => ((w_f_X11_write_B2 _ _ _ _).on (by simp) (mm_fr_refl _ _))) (fun _ => (mm_fr_refl _ _).b))
def f_X11_write (v1 : Int32) (v2 : Int32) (ts : Nat) (M : mm_M) : Int32 × mm_M :=
  if ¬ f_X11_hasBegun v1 M = 0 ∧ ¬ (900 : Int32) < v2 ∧ ¬ f_X11_isOnTape v2 M = 0 then (let q1 := (v1).toNatClampNeg
  let q2 := (v2).toNatClampNeg
  let M_6 := f_X11_emptyTape M
  f_X11_write_B3 M q1 q2 M_6) else (if (f_X11_hasBegun (v1) M) = (0 : Int32) then (((-2 : Int32), M)) else (if (900 : Int32) < (v2) then (((-2 : Int32), M)) else (((-2 : Int32), M))))
theorem w_f_X11_write (v1 : Int32) (v2 : Int32) (ts : Nat) (M : mm_M) : mm_fr2 [0, 14, 16, 17, 18, 19, 20, 22, 21, 15, 2, 24, 23, 26, 25, (((49 + 17 * v1.toNatClampNeg) + 5) + 1), 34, 35, 33, 37, 40, 38, 39, 31, 41, (((49 + 17 * v1.toNatClampNeg) + 5) + 3), (49 + 17 * v1.toNatClampNeg), 28, 29, 30, (((49 + 17 * v1.toNatClampNeg) + 5) + 2), (((49 + 17 * v1.toNatClampNeg) + 5) + 4), (((49 + 17 * v1.toNatClampNeg) + 11) + 1), (((49 + 17 * v1.toNatClampNeg) + 14) + 1), ((49 + 17 * v1.toNatClampNeg) + 11), ((49 + 17 * v1.toNatClampNeg) + 14)] M (f_X11_write v1 v2 ts M) := by
  unfold f_X11_write
  exact (mm_fr_ite2 (fun _ => ((w_f_X11_write_B3 _ _ _ _).on (by simp) ((w_f_X11_emptyTape _).on (by simp) (mm_fr_refl _ _)))) (fun _ => (mm_fr_ite2 (fun _ => (mm_fr_refl _ _).b) (fun _ => (mm_fr_ite2 (fun _ => (mm_fr_refl _ _).b) (fun _ => (mm_fr_refl _ _).b))))))
set_option maxHeartbeats 4000000 in
set_option maxRecDepth 100000 in
theorem c_X11_write (l : Launch) (D : va_G) (b0 : Nat) (r : Nat → Nat) (M : mm_M) (v1 : Int32) (v2 : Int32) (ts : Nat) (hts : ts ≤ 1000) (h1 : M.1 0 1 = nI ts) (hI : ∀ s, s < 4 → M.1 (49 + 17 * s) 10 = -1 ∨ M.1 (49 + 17 * s) 10 = 0 ∨ M.1 (49 + 17 * s) 10 = 1 ∨ M.1 (49 + 17 * s) 10 = 2 ∨ M.1 (49 + 17 * s) 10 = 3) : mm_Mi l yX11_write cX11_write 3 .int 7 227 D b0 r [.ref (r (0)), .int (v1), .int (v2)] M (fun v M' => (v, M') = f_X11_write v1 v2 ts M) := by
  refine mm_enter (cc := cX11_write) (nL := 3) (ret := (some .int)) (by decide) (Nat.le_of_ble_eq_true rfl) ?_
  intro p e s m args below meth c C w ls hl
  have hl : lv_has ls 3 [(0, .ref (r (0))), (1, .int (v1)), (2, .int (v2))] := hl
  by_cases hS : ¬ f_X11_hasBegun v1 M = 0 ∧ ¬ (900 : Int32) < v2 ∧ ¬ f_X11_isOnTape v2 M = 0
  · obtain ⟨q1, eq1⟩ : ∃ zz, zz = (v1).toNatClampNeg := ⟨_, rfl⟩
    obtain ⟨hvq1, hbq1⟩ : v1 = nI q1 ∧ q1 < 4 := by rw [eq1]; exact (g_hasBegun hS.1).1
    rw [hvq1] at hl
    obtain ⟨q2, eq2⟩ : ∃ zz, zz = (v2).toNatClampNeg := ⟨_, rfl⟩
    obtain ⟨hvq2, hbq2⟩ : v2 = nI q2 ∧ q2 ≤ ts := by rw [eq2]; exact g_isOnTape hts h1 hS.2.2
    rw [hvq2] at hl
    have hTq1 : ¬ f_X11_hasBegun (nI q1) M = 0 := by rw [← hvq1]; exact hS.1
    have hTq2 : ¬ f_X11_isOnTape (nI q2) M = 0 := by rw [← hvq2]; exact hS.2.2
    have hq2 : q2 ≤ 900 := by have h9 := hS.2.1; rw [hvq2] at h9; exact Nat.not_lt.mp fun q => h9 (nI_lt q (by omega))
    have hnb : ¬ M.1 (49 + 17 * q1) 10 = -1 := by rw [eq1]; exact (g_hasBegun hS.1).2
    refine lv_aload_n C.1 C.2.1 dX11_write_0 rfl (lv_at hl 0 rfl) ?_
    refine lv_iload_n C.1 C.2.1 dX11_write_1 rfl (lv_at hl 1 rfl) ?_
    refine m_cvi C w hl cvX11_152 (k := 0) (by decide) rfl (q := (RX11, TX11, 7)) rfl rfl (As := [.int (nI (q1))]) (rest := []) (c_X11_hasBegun l D b0 r M (nI (q1)) ) rfl rfl (Nat.le_of_ble_eq_true rfl) ⟨Nat.le_of_ble_eq_true rfl, Nat.le_of_ble_eq_true rfl⟩ ⟨Nat.zero_le _, Nat.zero_le _⟩ dX11_write_2 (fun v_1 M9 H locs e9 w => ?_)
    obtain ⟨ev_1, e9⟩ := e9
    rw [e9] at w
    subst ev_1
    refine lv_if_eq (tgt := 23) C.1 C.2.1 dX11_write_5 (by decide) (fun h_2 => absurd h_2 hTq1) (fun _ => ?_)
    refine lv_iload_n C.1 C.2.1 dX11_write_8 rfl (lv_at hl 2 rfl) ?_
    refine lv_sipush (v := 900) C.1 C.2.1 dX11_write_9 (by decide) ?_
    refine m_icmp_gt (tgt := 23) (a := q2) (b := 900) C (by omega) (by omega) dX11_write_12 (by decide) (fun h_3 => absurd h_3 (by omega)) (fun _ => ?_)
    refine lv_aload_n C.1 C.2.1 dX11_write_15 rfl (lv_at hl 0 rfl) ?_
    refine lv_iload_n C.1 C.2.1 dX11_write_16 rfl (lv_at hl 2 rfl) ?_
    refine m_cvi C w hl cvX11_65 (k := 0) (by decide) rfl (q := (RX11, TX11, 7)) rfl rfl (As := [.int (nI (q2))]) (rest := []) (c_X11_isOnTape l D b0 r M (nI (q2)) ) rfl rfl (Nat.le_of_ble_eq_true rfl) ⟨Nat.le_of_ble_eq_true rfl, Nat.le_of_ble_eq_true rfl⟩ ⟨Nat.zero_le _, Nat.zero_le _⟩ dX11_write_17 (fun v_4 M9 H locs e9 w => ?_)
    obtain ⟨ev_4, e9⟩ := e9
    rw [e9] at w
    subst ev_4
    refine lv_if_ne (tgt := 26) C.1 C.2.1 dX11_write_20 (by decide) (fun _ => ?_) (fun h_5 => absurd h_5 hTq2)
    refine lv_aload_n C.1 C.2.1 dX11_write_26 rfl (lv_at hl 0 rfl) ?_
    refine m_cvv C w hl cvX11_68 (k := 0) (by decide) rfl (q := (RX11, TX11, 7)) rfl rfl (As := []) (rest := []) (c_X11_emptyTape l D b0 r M  ) rfl rfl (Nat.le_of_ble_eq_true rfl) ⟨Nat.le_of_ble_eq_true rfl, Nat.le_of_ble_eq_true rfl⟩ ⟨Nat.zero_le _, Nat.zero_le _⟩ dX11_write_27 (fun M_6 H locs eM_6 w => ?_)
    refine lv_aload_n C.1 C.2.1 dX11_write_30 rfl (lv_at hl 0 rfl) ?_
    refine m_get C w (k := 0) (j := 6) (v := .ref (r (42))) flX11_37 (by decide) rfl rfl dX11_write_31 ?_
    refine lv_iload_n C.1 C.2.1 dX11_write_34 rfl (lv_at hl 1 rfl) ?_
    refine m_aald C w (k := 42) (i := q1) (n := 4) (wr := true) (q := 49 + 17 * q1) (by decide) rfl rfl (by omega) (by decide) (mm_ses_ds q1 (by omega)) dX11_write_35 ?_
    refine m_cvi C w hl cvX11_155 (k := 49 + 17 * q1) (by have := (mm_ses_of q1 (by omega)).1; omega) (mm_ses_of q1 (by omega)).2.2.1 (q := (RX7, TX7, 12)) rfl rfl (As := []) (rest := []) (c_X7_writesNext l D b0 r M_6 (49 + 17 * q1) (mm_ses_of q1 (by omega))) rfl rfl (Nat.le_of_ble_eq_true rfl) ⟨Nat.le_of_ble_eq_true rfl, Nat.le_of_ble_eq_true rfl⟩ ⟨Nat.zero_le _, Nat.zero_le _⟩ dX11_write_36 (fun v_7 M9 H locs e9 w => ?_)
    obtain ⟨ev_7, e9⟩ := e9
    rw [e9] at w
    subst ev_7
    refine lv_if_ne (tgt := 44) C.1 C.2.1 dX11_write_39 (by decide) (fun h_8 => ?_) (fun h_8 => ?_)
    · refine lv_aload_n C.1 C.2.1 dX11_write_44 rfl (lv_at hl 0 rfl) ?_
      refine lv_aload_n C.1 C.2.1 dX11_write_45 rfl (lv_at hl 0 rfl) ?_
      refine m_get C w (k := 0) (j := 6) (v := .ref (r (42))) flX11_37 (by decide) rfl rfl dX11_write_46 ?_
      refine lv_iload_n C.1 C.2.1 dX11_write_49 rfl (lv_at hl 1 rfl) ?_
      have hkp : M_6.1 (49 + 17 * q1) = M.1 (49 + 17 * q1) := ((show mm_fr [0] M M_6 from (by subst eM_6; exact ((w_f_X11_emptyTape _).on (by simp) (mm_fr_refl _ _)))) (49 + 17 * q1) (by first | (simp; done) | (simp; omega))).1
      refine m_aald C w (k := 42) (i := q1) (n := 4) (wr := true) (q := 49 + 17 * q1) (by decide) rfl rfl (by omega) (by decide) (mm_ses_ds q1 (by omega)) dX11_write_50 ?_
      refine lv_aload_n C.1 C.2.1 dX11_write_51 rfl (lv_at hl 0 rfl) ?_
      refine m_get C w (k := 0) (j := 0) (v := .ref (r (1))) flX11_9 (by decide) rfl rfl dX11_write_52 ?_
      refine lv_iload_n C.1 C.2.1 dX11_write_55 rfl (lv_at hl 2 rfl) ?_
      refine lv_aload_n C.1 C.2.1 dX11_write_56 rfl (lv_at hl 0 rfl) ?_
      refine m_get C w (k := 0) (j := 2) (v := .ref (r (2))) flX11_17 (by decide) rfl rfl dX11_write_57 ?_
      by_cases hA : M.1 (49 + 17 * q1) 10 = 0
      · refine m_cvi C w hl cvX11_159 (k := 49 + 17 * q1) (by have := (mm_ses_of q1 (by omega)).1; omega) (mm_ses_of q1 (by omega)).2.2.1 (q := (RX7, TX7, 12)) rfl rfl (As := [.ref (r (1)), .int (nI (q2)), .ref (r (2))]) (rest := [.ref (r (0))]) (c_X7_writeMessage_0 l D b0 r M_6 (49 + 17 * q1) q2 (mm_ses_of q1 (by omega)) (by omega) (by rw [hkp]; exact hA)) rfl rfl (Nat.le_of_ble_eq_true rfl) ⟨Nat.le_of_ble_eq_true rfl, Nat.le_of_ble_eq_true rfl⟩ ⟨Nat.zero_le _, Nat.zero_le _⟩ dX11_write_60 (fun v_10 M_9 H locs e9 w => ?_)
        obtain ⟨ev_10, eM_9⟩ : v_10 = (f_X7_writeMessage_0 (49 + 17 * q1) q2 M_6).1 ∧ M_9 = (f_X7_writeMessage_0 (49 + 17 * q1) q2 M_6).2 := ⟨congrArg Prod.fst e9, congrArg Prod.snd e9⟩
        clear e9
        refine m_cvi C w hl cvX11_106 (k := 0) (by decide) rfl (q := (RX11, TX11, 7)) rfl rfl (As := [.int (v_10)]) (rest := []) (c_X11_tell l D b0 r M_9 (v_10) ) rfl rfl (Nat.le_of_ble_eq_true rfl) ⟨Nat.le_of_ble_eq_true rfl, Nat.le_of_ble_eq_true rfl⟩ ⟨Nat.zero_le _, Nat.zero_le _⟩ dX11_write_63 (fun v_12 M_11 H locs e9 w => ?_)
        obtain ⟨ev_12, eM_11⟩ : v_12 = (f_X11_tell (v_10) M_9).1 ∧ M_11 = (f_X11_tell (v_10) M_9).2 := ⟨congrArg Prod.fst e9, congrArg Prod.snd e9⟩
        clear e9
        exact m_iret C w (by subst eq1 eq2 eM_6 ev_10 eM_9 ev_12 eM_11; exact Eq.symm (((if_pos hS).trans ((if_pos h_8).trans ((if_pos hA).trans rfl))))) dX11_write_66
      · by_cases hB : M.1 (49 + 17 * q1) 10 = 1
        · refine m_cvi C w hl cvX11_159 (k := 49 + 17 * q1) (by have := (mm_ses_of q1 (by omega)).1; omega) (mm_ses_of q1 (by omega)).2.2.1 (q := (RX7, TX7, 12)) rfl rfl (As := [.ref (r (1)), .int (nI (q2)), .ref (r (2))]) (rest := [.ref (r (0))]) (c_X7_writeMessage_1 l D b0 r M_6 (49 + 17 * q1) q2 (mm_ses_of q1 (by omega)) (by omega) (by rw [hkp]; exact hB)) rfl rfl (Nat.le_of_ble_eq_true rfl) ⟨Nat.le_of_ble_eq_true rfl, Nat.le_of_ble_eq_true rfl⟩ ⟨Nat.zero_le _, Nat.zero_le _⟩ dX11_write_60 (fun v_14 M_13 H locs e9 w => ?_)
          obtain ⟨ev_14, eM_13⟩ : v_14 = (f_X7_writeMessage_1 (49 + 17 * q1) q2 M_6).1 ∧ M_13 = (f_X7_writeMessage_1 (49 + 17 * q1) q2 M_6).2 := ⟨congrArg Prod.fst e9, congrArg Prod.snd e9⟩
          clear e9
          refine m_cvi C w hl cvX11_106 (k := 0) (by decide) rfl (q := (RX11, TX11, 7)) rfl rfl (As := [.int (v_14)]) (rest := []) (c_X11_tell l D b0 r M_13 (v_14) ) rfl rfl (Nat.le_of_ble_eq_true rfl) ⟨Nat.le_of_ble_eq_true rfl, Nat.le_of_ble_eq_true rfl⟩ ⟨Nat.zero_le _, Nat.zero_le _⟩ dX11_write_63 (fun v_16 M_15 H locs e9 w => ?_)
          obtain ⟨ev_16, eM_15⟩ : v_16 = (f_X11_tell (v_14) M_13).1 ∧ M_15 = (f_X11_tell (v_14) M_13).2 := ⟨congrArg Prod.fst e9, congrArg Prod.snd e9⟩
          clear e9
          exact m_iret C w (by subst eq1 eq2 eM_6 ev_14 eM_13 ev_16 eM_15; exact Eq.symm (((if_pos hS).trans ((if_pos h_8).trans ((if_neg hA).trans ((if_pos hB).trans rfl)))))) dX11_write_66
        · refine m_cvi C w hl cvX11_159 (k := 49 + 17 * q1) (by have := (mm_ses_of q1 (by omega)).1; omega) (mm_ses_of q1 (by omega)).2.2.1 (q := (RX7, TX7, 12)) rfl rfl (As := [.ref (r (1)), .int (nI (q2)), .ref (r (2))]) (rest := [.ref (r (0))]) (c_X7_writeMessage_2 l D b0 r M_6 (49 + 17 * q1) q2 (mm_ses_of q1 (by omega)) (by omega) (by rw [hkp]; exact g_two (hI q1 (by omega)) hnb hA hB (g_writes hkp h_8))) rfl rfl (Nat.le_of_ble_eq_true rfl) ⟨Nat.le_of_ble_eq_true rfl, Nat.le_of_ble_eq_true rfl⟩ ⟨Nat.zero_le _, Nat.zero_le _⟩ dX11_write_60 (fun v_18 M_17 H locs e9 w => ?_)
          obtain ⟨ev_18, eM_17⟩ : v_18 = (f_X7_writeMessage_2 (49 + 17 * q1) q2 M_6).1 ∧ M_17 = (f_X7_writeMessage_2 (49 + 17 * q1) q2 M_6).2 := ⟨congrArg Prod.fst e9, congrArg Prod.snd e9⟩
          clear e9
          refine m_cvi C w hl cvX11_106 (k := 0) (by decide) rfl (q := (RX11, TX11, 7)) rfl rfl (As := [.int (v_18)]) (rest := []) (c_X11_tell l D b0 r M_17 (v_18) ) rfl rfl (Nat.le_of_ble_eq_true rfl) ⟨Nat.le_of_ble_eq_true rfl, Nat.le_of_ble_eq_true rfl⟩ ⟨Nat.zero_le _, Nat.zero_le _⟩ dX11_write_63 (fun v_20 M_19 H locs e9 w => ?_)
          obtain ⟨ev_20, eM_19⟩ : v_20 = (f_X11_tell (v_18) M_17).1 ∧ M_19 = (f_X11_tell (v_18) M_17).2 := ⟨congrArg Prod.fst e9, congrArg Prod.snd e9⟩
          clear e9
          exact m_iret C w (by subst eq1 eq2 eM_6 ev_18 eM_17 ev_20 eM_19; exact Eq.symm (((if_pos hS).trans ((if_pos h_8).trans ((if_neg hA).trans ((if_neg hB).trans rfl)))))) dX11_write_66
    · refine lv_iconst (v := (-1)) C.1 C.2.1 dX11_write_42 (by decide) ?_
      exact m_iret C w (by subst eq1 eq2 eM_6; exact Eq.symm (((if_pos hS).trans ((if_neg (fun q => q h_8)).trans rfl)))) dX11_write_43
  · refine lv_aload_n C.1 C.2.1 dX11_write_0 rfl (lv_at hl 0 rfl) ?_
    refine lv_iload_n C.1 C.2.1 dX11_write_1 rfl (lv_at hl 1 rfl) ?_
    refine m_cvi C w hl cvX11_152 (k := 0) (by decide) rfl (q := (RX11, TX11, 7)) rfl rfl (As := [.int (v1)]) (rest := []) (c_X11_hasBegun l D b0 r M (v1) ) rfl rfl (Nat.le_of_ble_eq_true rfl) ⟨Nat.le_of_ble_eq_true rfl, Nat.le_of_ble_eq_true rfl⟩ ⟨Nat.zero_le _, Nat.zero_le _⟩ dX11_write_2 (fun v_21 M9 H locs e9 w => ?_)
    obtain ⟨ev_21, e9⟩ := e9
    rw [e9] at w
    subst ev_21
    refine lv_if_eq (tgt := 23) C.1 C.2.1 dX11_write_5 (by decide) (fun h_22 => ?_) (fun h_22 => ?_)
    · refine lv_bipush (v := (-2)) C.1 C.2.1 dX11_write_23 (by decide) ?_
      exact m_iret C w (by exact Eq.symm (((if_neg hS).trans ((if_pos h_22).trans rfl)))) dX11_write_25
    · refine lv_iload_n C.1 C.2.1 dX11_write_8 rfl (lv_at hl 2 rfl) ?_
      refine lv_sipush (v := 900) C.1 C.2.1 dX11_write_9 (by decide) ?_
      refine lv_icmp_gt (tgt := 23) C.1 C.2.1 dX11_write_12 (by decide) (fun h_23 => ?_) (fun h_23 => ?_)
      · refine lv_bipush (v := (-2)) C.1 C.2.1 dX11_write_23 (by decide) ?_
        exact m_iret C w (by exact Eq.symm (((if_neg hS).trans ((if_neg h_22).trans ((if_pos h_23).trans rfl))))) dX11_write_25
      · refine lv_aload_n C.1 C.2.1 dX11_write_15 rfl (lv_at hl 0 rfl) ?_
        refine lv_iload_n C.1 C.2.1 dX11_write_16 rfl (lv_at hl 2 rfl) ?_
        refine m_cvi C w hl cvX11_65 (k := 0) (by decide) rfl (q := (RX11, TX11, 7)) rfl rfl (As := [.int (v2)]) (rest := []) (c_X11_isOnTape l D b0 r M (v2) ) rfl rfl (Nat.le_of_ble_eq_true rfl) ⟨Nat.le_of_ble_eq_true rfl, Nat.le_of_ble_eq_true rfl⟩ ⟨Nat.zero_le _, Nat.zero_le _⟩ dX11_write_17 (fun v_24 M9 H locs e9 w => ?_)
        obtain ⟨ev_24, e9⟩ := e9
        rw [e9] at w
        subst ev_24
        refine lv_if_ne (tgt := 26) C.1 C.2.1 dX11_write_20 (by decide) (fun h_25 => absurd h_25 (fun q => hS ⟨h_22, h_23, q⟩)) (fun _ => ?_)
        refine lv_bipush (v := (-2)) C.1 C.2.1 dX11_write_23 (by decide) ?_
        exact m_iret C w (by exact Eq.symm (((if_neg hS).trans ((if_neg h_22).trans ((if_neg h_23).trans rfl))))) dX11_write_25

def f_X11_read_B1 (M : mm_M) (q1 : Nat) (q2 : Nat) (M_5 : mm_M) : Int32 × mm_M :=
  if M.1 (49 + 17 * q1) 10 = 1 then (let v_13 := (f_X7_readMessage_1 (49 + 17 * q1) q2 M_5).1
  let M_12 := (f_X7_readMessage_1 (49 + 17 * q1) q2 M_5).2
  let v_15 := (f_X11_tell (v_13) M_12).1
  let M_14 := (f_X11_tell (v_13) M_12).2
  ((v_15), M_14)) else (let v_17 := (f_X7_readMessage_2 (49 + 17 * q1) q2 M_5).1
  let M_16 := (f_X7_readMessage_2 (49 + 17 * q1) q2 M_5).2
  let v_19 := (f_X11_tell (v_17) M_16).1
  let M_18 := (f_X11_tell (v_17) M_16).2
  ((v_19), M_18))
theorem w_f_X11_read_B1 (M : mm_M) (q1 : Nat) (q2 : Nat) (M_5 : mm_M) : mm_fr2 [43 + 1, 43 + 2, 43 + 4, (43 + 3), (49 + 17 * q1) + 4, 24, 23, 26, 25, (((49 + 17 * q1) + 5) + 1), 14, 16, 17, 18, 19, 20, 22, 21, 15, 28, 29, 30, (((49 + 17 * q1) + 5) + 2), (((49 + 17 * q1) + 5) + 4), (((49 + 17 * q1) + 5) + 3), 34, 35, 33, 37, 40, 38, 39, 31, 41, ((49 + 17 * q1) + 3), 2, (49 + 17 * q1), (49 + 17 * q1) + 6, (49 + 17 * q1) + 7, (49 + 17 * q1) + 9, 0, (((49 + 17 * q1) + 14) + 1), (((49 + 17 * q1) + 11) + 1), ((49 + 17 * q1) + 14), ((49 + 17 * q1) + 11)] M_5 (f_X11_read_B1 M q1 q2 M_5) := by
  unfold f_X11_read_B1
  exact (mm_fr_ite2 (fun _ => ((w_f_X11_tell _ _).m.on (by simp) ((w_f_X7_readMessage_1 _ _ _).m.on (by simp) (mm_fr_refl _ _))).b) (fun _ => ((w_f_X11_tell _ _).m.on (by simp) ((w_f_X7_readMessage_2 _ _ _).m.on (by simp) (mm_fr_refl _ _))).b))
def f_X11_read_B2 (M : mm_M) (q1 : Nat) (q2 : Nat) (M_5 : mm_M) : Int32 × mm_M :=
  if M.1 (49 + 17 * q1) 10 = 0 then (let v_9 := (f_X7_readMessage_0 (49 + 17 * q1) q2 M_5).1
  let M_8 := (f_X7_readMessage_0 (49 + 17 * q1) q2 M_5).2
  let v_11 := (f_X11_tell (v_9) M_8).1
  let M_10 := (f_X11_tell (v_9) M_8).2
  ((v_11), M_10)) else (f_X11_read_B1 M q1 q2 M_5)
theorem w_f_X11_read_B2 (M : mm_M) (q1 : Nat) (q2 : Nat) (M_5 : mm_M) : mm_fr2 [43 + 1, 43 + 2, 43 + 4, (43 + 3), (49 + 17 * q1) + 4, 24, 23, 26, 25, (((49 + 17 * q1) + 5) + 1), 34, 35, 33, 37, 40, 38, 39, 31, 41, 2, (((49 + 17 * q1) + 5) + 3), (49 + 17 * q1), (49 + 17 * q1) + 6, (49 + 17 * q1) + 7, (49 + 17 * q1) + 9, 0, 14, 16, 17, 18, 19, 20, 22, 21, 15, 28, 29, 30, (((49 + 17 * q1) + 5) + 2), (((49 + 17 * q1) + 5) + 4), ((49 + 17 * q1) + 3), (((49 + 17 * q1) + 14) + 1), (((49 + 17 * q1) + 11) + 1), ((49 + 17 * q1) + 14), ((49 + 17 * q1) + 11)] M_5 (f_X11_read_B2 M q1 q2 M_5) := by
  unfold f_X11_read_B2
  exact (mm_fr_ite2 (fun _ => ((w_f_X11_tell _ _).m.on (by simp) ((w_f_X7_readMessage_0 _ _ _).m.on (by simp) (mm_fr_refl _ _))).b) (fun _ => ((w_f_X11_read_B1 _ _ _ _).on (by simp) (mm_fr_refl _ _))))
def f_X11_read_B3 (M : mm_M) (q1 : Nat) (q2 : Nat) (M_5 : mm_M) : Int32 × mm_M :=
  if ¬ (f_X7_readsNext (49 + 17 * q1) M_5) = (0 : Int32) then (f_X11_read_B2 M q1 q2 M_5) else (((-1 : Int32), M_5))
theorem w_f_X11_read_B3 (M : mm_M) (q1 : Nat) (q2 : Nat) (M_5 : mm_M) : mm_fr2 [43 + 1, 43 + 2, 43 + 4, (43 + 3), (49 + 17 * q1) + 4, 24, 23, 26, 25, (((49 + 17 * q1) + 5) + 1), 34, 35, 33, 37, 40, 38, 39, 31, 41, 2, (((49 + 17 * q1) + 5) + 3), (49 + 17 * q1), (49 + 17 * q1) + 6, (49 + 17 * q1) + 7, (49 + 17 * q1) + 9, 0, 14, 16, 17, 18, 19, 20, 22, 21, 15, 28, 29, 30, (((49 + 17 * q1) + 5) + 2), (((49 + 17 * q1) + 5) + 4), ((49 + 17 * q1) + 3), (((49 + 17 * q1) + 14) + 1), (((49 + 17 * q1) + 11) + 1), ((49 + 17 * q1) + 14), ((49 + 17 * q1) + 11)] M_5 (f_X11_read_B3 M q1 q2 M_5) := by
  unfold f_X11_read_B3
  exact (mm_fr_ite2 (fun _ => ((w_f_X11_read_B2 _ _ _ _).on (by simp) (mm_fr_refl _ _))) (fun _ => (mm_fr_refl _ _).b))
def f_X11_read (v1 : Int32) (v2 : Int32) (ts : Nat) (M : mm_M) : Int32 × mm_M :=
  if ¬ f_X11_hasBegun v1 M = 0 ∧ ¬ f_X11_isOnTape v2 M = 0 then (let q1 := (v1).toNatClampNeg
  let q2 := (v2).toNatClampNeg
  let M_5 := f_X11_emptyTape M
  f_X11_read_B3 M q1 q2 M_5) else (if (f_X11_hasBegun (v1) M) = (0 : Int32) then (((-2 : Int32), M)) else (((-2 : Int32), M)))
theorem w_f_X11_read (v1 : Int32) (v2 : Int32) (ts : Nat) (M : mm_M) : mm_fr2 [0, 43 + 1, 43 + 2, 43 + 4, (43 + 3), (49 + 17 * v1.toNatClampNeg) + 4, 24, 23, 26, 25, (((49 + 17 * v1.toNatClampNeg) + 5) + 1), 34, 35, 33, 37, 40, 38, 39, 31, 41, 2, (((49 + 17 * v1.toNatClampNeg) + 5) + 3), (49 + 17 * v1.toNatClampNeg), (49 + 17 * v1.toNatClampNeg) + 6, (49 + 17 * v1.toNatClampNeg) + 7, (49 + 17 * v1.toNatClampNeg) + 9, 14, 16, 17, 18, 19, 20, 22, 21, 15, 28, 29, 30, (((49 + 17 * v1.toNatClampNeg) + 5) + 2), (((49 + 17 * v1.toNatClampNeg) + 5) + 4), ((49 + 17 * v1.toNatClampNeg) + 3), (((49 + 17 * v1.toNatClampNeg) + 14) + 1), (((49 + 17 * v1.toNatClampNeg) + 11) + 1), ((49 + 17 * v1.toNatClampNeg) + 14), ((49 + 17 * v1.toNatClampNeg) + 11)] M (f_X11_read v1 v2 ts M) := by
  unfold f_X11_read
  exact (mm_fr_ite2 (fun _ => ((w_f_X11_read_B3 _ _ _ _).on (by simp) ((w_f_X11_emptyTape _).on (by simp) (mm_fr_refl _ _)))) (fun _ => (mm_fr_ite2 (fun _ => (mm_fr_refl _ _).b) (fun _ => (mm_fr_refl _ _).b))))
set_option maxHeartbeats 4000000 in
set_option maxRecDepth 100000 in
theorem c_X11_read (l : Launch) (D : va_G) (b0 : Nat) (r : Nat → Nat) (M : mm_M) (v1 : Int32) (v2 : Int32) (ts : Nat) (hts : ts ≤ 1000) (h1 : M.1 0 1 = nI ts) (hI : ∀ s, s < 4 → M.1 (49 + 17 * s) 10 = -1 ∨ M.1 (49 + 17 * s) 10 = 0 ∨ M.1 (49 + 17 * s) 10 = 1 ∨ M.1 (49 + 17 * s) 10 = 2 ∨ M.1 (49 + 17 * s) 10 = 3) (hK : ∀ s, s < 4 → M.1 (49 + 17 * s) 10 = 2 → ¬ M.1 (49 + 17 * s + 5 + 3) 3 = 0) : mm_Mi l yX11_read cX11_read 3 .int 7 207 D b0 r [.ref (r (0)), .int (v1), .int (v2)] M (fun v M' => (v, M') = f_X11_read v1 v2 ts M) := by
  refine mm_enter (cc := cX11_read) (nL := 3) (ret := (some .int)) (by decide) (Nat.le_of_ble_eq_true rfl) ?_
  intro p e s m args below meth c C w ls hl
  have hl : lv_has ls 3 [(0, .ref (r (0))), (1, .int (v1)), (2, .int (v2))] := hl
  by_cases hS : ¬ f_X11_hasBegun v1 M = 0 ∧ ¬ f_X11_isOnTape v2 M = 0
  · obtain ⟨q1, eq1⟩ : ∃ zz, zz = (v1).toNatClampNeg := ⟨_, rfl⟩
    obtain ⟨hvq1, hbq1⟩ : v1 = nI q1 ∧ q1 < 4 := by rw [eq1]; exact (g_hasBegun hS.1).1
    rw [hvq1] at hl
    obtain ⟨q2, eq2⟩ : ∃ zz, zz = (v2).toNatClampNeg := ⟨_, rfl⟩
    obtain ⟨hvq2, hbq2⟩ : v2 = nI q2 ∧ q2 ≤ ts := by rw [eq2]; exact g_isOnTape hts h1 hS.2
    rw [hvq2] at hl
    have hTq1 : ¬ f_X11_hasBegun (nI q1) M = 0 := by rw [← hvq1]; exact hS.1
    have hTq2 : ¬ f_X11_isOnTape (nI q2) M = 0 := by rw [← hvq2]; exact hS.2
    have hnb : ¬ M.1 (49 + 17 * q1) 10 = -1 := by rw [eq1]; exact (g_hasBegun hS.1).2
    refine lv_aload_n C.1 C.2.1 dX11_read_0 rfl (lv_at hl 0 rfl) ?_
    refine lv_iload_n C.1 C.2.1 dX11_read_1 rfl (lv_at hl 1 rfl) ?_
    refine m_cvi C w hl cvX11_152 (k := 0) (by decide) rfl (q := (RX11, TX11, 7)) rfl rfl (As := [.int (nI (q1))]) (rest := []) (c_X11_hasBegun l D b0 r M (nI (q1)) ) rfl rfl (Nat.le_of_ble_eq_true rfl) ⟨Nat.le_of_ble_eq_true rfl, Nat.le_of_ble_eq_true rfl⟩ ⟨Nat.zero_le _, Nat.zero_le _⟩ dX11_read_2 (fun v_1 M9 H locs e9 w => ?_)
    obtain ⟨ev_1, e9⟩ := e9
    rw [e9] at w
    subst ev_1
    refine lv_if_eq (tgt := 16) C.1 C.2.1 dX11_read_5 (by decide) (fun h_2 => absurd h_2 hTq1) (fun _ => ?_)
    refine lv_aload_n C.1 C.2.1 dX11_read_8 rfl (lv_at hl 0 rfl) ?_
    refine lv_iload_n C.1 C.2.1 dX11_read_9 rfl (lv_at hl 2 rfl) ?_
    refine m_cvi C w hl cvX11_65 (k := 0) (by decide) rfl (q := (RX11, TX11, 7)) rfl rfl (As := [.int (nI (q2))]) (rest := []) (c_X11_isOnTape l D b0 r M (nI (q2)) ) rfl rfl (Nat.le_of_ble_eq_true rfl) ⟨Nat.le_of_ble_eq_true rfl, Nat.le_of_ble_eq_true rfl⟩ ⟨Nat.zero_le _, Nat.zero_le _⟩ dX11_read_10 (fun v_3 M9 H locs e9 w => ?_)
    obtain ⟨ev_3, e9⟩ := e9
    rw [e9] at w
    subst ev_3
    refine lv_if_ne (tgt := 19) C.1 C.2.1 dX11_read_13 (by decide) (fun _ => ?_) (fun h_4 => absurd h_4 hTq2)
    refine lv_aload_n C.1 C.2.1 dX11_read_19 rfl (lv_at hl 0 rfl) ?_
    refine m_cvv C w hl cvX11_68 (k := 0) (by decide) rfl (q := (RX11, TX11, 7)) rfl rfl (As := []) (rest := []) (c_X11_emptyTape l D b0 r M  ) rfl rfl (Nat.le_of_ble_eq_true rfl) ⟨Nat.le_of_ble_eq_true rfl, Nat.le_of_ble_eq_true rfl⟩ ⟨Nat.zero_le _, Nat.zero_le _⟩ dX11_read_20 (fun M_5 H locs eM_5 w => ?_)
    refine lv_aload_n C.1 C.2.1 dX11_read_23 rfl (lv_at hl 0 rfl) ?_
    refine m_get C w (k := 0) (j := 6) (v := .ref (r (42))) flX11_37 (by decide) rfl rfl dX11_read_24 ?_
    refine lv_iload_n C.1 C.2.1 dX11_read_27 rfl (lv_at hl 1 rfl) ?_
    refine m_aald C w (k := 42) (i := q1) (n := 4) (wr := true) (q := 49 + 17 * q1) (by decide) rfl rfl (by omega) (by decide) (mm_ses_ds q1 (by omega)) dX11_read_28 ?_
    refine m_cvi C w hl cvX11_163 (k := 49 + 17 * q1) (by have := (mm_ses_of q1 (by omega)).1; omega) (mm_ses_of q1 (by omega)).2.2.1 (q := (RX7, TX7, 12)) rfl rfl (As := []) (rest := []) (c_X7_readsNext l D b0 r M_5 (49 + 17 * q1) (mm_ses_of q1 (by omega))) rfl rfl (Nat.le_of_ble_eq_true rfl) ⟨Nat.le_of_ble_eq_true rfl, Nat.le_of_ble_eq_true rfl⟩ ⟨Nat.zero_le _, Nat.zero_le _⟩ dX11_read_29 (fun v_6 M9 H locs e9 w => ?_)
    obtain ⟨ev_6, e9⟩ := e9
    rw [e9] at w
    subst ev_6
    refine lv_if_ne (tgt := 37) C.1 C.2.1 dX11_read_32 (by decide) (fun h_7 => ?_) (fun h_7 => ?_)
    · refine lv_aload_n C.1 C.2.1 dX11_read_37 rfl (lv_at hl 0 rfl) ?_
      refine lv_aload_n C.1 C.2.1 dX11_read_38 rfl (lv_at hl 0 rfl) ?_
      refine m_get C w (k := 0) (j := 6) (v := .ref (r (42))) flX11_37 (by decide) rfl rfl dX11_read_39 ?_
      refine lv_iload_n C.1 C.2.1 dX11_read_42 rfl (lv_at hl 1 rfl) ?_
      have hkp : M_5.1 (49 + 17 * q1) = M.1 (49 + 17 * q1) := ((show mm_fr [0] M M_5 from (by subst eM_5; exact ((w_f_X11_emptyTape _).on (by simp) (mm_fr_refl _ _)))) (49 + 17 * q1) (by first | (simp; done) | (simp; omega))).1
      refine m_aald C w (k := 42) (i := q1) (n := 4) (wr := true) (q := 49 + 17 * q1) (by decide) rfl rfl (by omega) (by decide) (mm_ses_ds q1 (by omega)) dX11_read_43 ?_
      refine lv_aload_n C.1 C.2.1 dX11_read_44 rfl (lv_at hl 0 rfl) ?_
      refine m_get C w (k := 0) (j := 0) (v := .ref (r (1))) flX11_9 (by decide) rfl rfl dX11_read_45 ?_
      refine lv_iload_n C.1 C.2.1 dX11_read_48 rfl (lv_at hl 2 rfl) ?_
      refine lv_aload_n C.1 C.2.1 dX11_read_49 rfl (lv_at hl 0 rfl) ?_
      refine m_get C w (k := 0) (j := 2) (v := .ref (r (2))) flX11_17 (by decide) rfl rfl dX11_read_50 ?_
      by_cases hA : M.1 (49 + 17 * q1) 10 = 0
      · refine m_cvi C w hl cvX11_166 (k := 49 + 17 * q1) (by have := (mm_ses_of q1 (by omega)).1; omega) (mm_ses_of q1 (by omega)).2.2.1 (q := (RX7, TX7, 12)) rfl rfl (As := [.ref (r (1)), .int (nI (q2)), .ref (r (2))]) (rest := [.ref (r (0))]) (c_X7_readMessage_0 l D b0 r M_5 (49 + 17 * q1) q2 (mm_ses_of q1 (by omega)) (by omega) (by rw [hkp]; exact hA)) rfl rfl (Nat.le_of_ble_eq_true rfl) ⟨Nat.le_of_ble_eq_true rfl, Nat.le_of_ble_eq_true rfl⟩ ⟨Nat.zero_le _, Nat.zero_le _⟩ dX11_read_53 (fun v_9 M_8 H locs e9 w => ?_)
        obtain ⟨ev_9, eM_8⟩ : v_9 = (f_X7_readMessage_0 (49 + 17 * q1) q2 M_5).1 ∧ M_8 = (f_X7_readMessage_0 (49 + 17 * q1) q2 M_5).2 := ⟨congrArg Prod.fst e9, congrArg Prod.snd e9⟩
        clear e9
        refine m_cvi C w hl cvX11_106 (k := 0) (by decide) rfl (q := (RX11, TX11, 7)) rfl rfl (As := [.int (v_9)]) (rest := []) (c_X11_tell l D b0 r M_8 (v_9) ) rfl rfl (Nat.le_of_ble_eq_true rfl) ⟨Nat.le_of_ble_eq_true rfl, Nat.le_of_ble_eq_true rfl⟩ ⟨Nat.zero_le _, Nat.zero_le _⟩ dX11_read_56 (fun v_11 M_10 H locs e9 w => ?_)
        obtain ⟨ev_11, eM_10⟩ : v_11 = (f_X11_tell (v_9) M_8).1 ∧ M_10 = (f_X11_tell (v_9) M_8).2 := ⟨congrArg Prod.fst e9, congrArg Prod.snd e9⟩
        clear e9
        exact m_iret C w (by subst eq1 eq2 eM_5 ev_9 eM_8 ev_11 eM_10; exact Eq.symm (((if_pos hS).trans ((if_pos h_7).trans ((if_pos hA).trans rfl))))) dX11_read_59
      · by_cases hB : M.1 (49 + 17 * q1) 10 = 1
        · refine m_cvi C w hl cvX11_166 (k := 49 + 17 * q1) (by have := (mm_ses_of q1 (by omega)).1; omega) (mm_ses_of q1 (by omega)).2.2.1 (q := (RX7, TX7, 12)) rfl rfl (As := [.ref (r (1)), .int (nI (q2)), .ref (r (2))]) (rest := [.ref (r (0))]) (c_X7_readMessage_1 l D b0 r M_5 (49 + 17 * q1) q2 (mm_ses_of q1 (by omega)) (by omega) (by rw [hkp]; exact hB)) rfl rfl (Nat.le_of_ble_eq_true rfl) ⟨Nat.le_of_ble_eq_true rfl, Nat.le_of_ble_eq_true rfl⟩ ⟨Nat.zero_le _, Nat.zero_le _⟩ dX11_read_53 (fun v_13 M_12 H locs e9 w => ?_)
          obtain ⟨ev_13, eM_12⟩ : v_13 = (f_X7_readMessage_1 (49 + 17 * q1) q2 M_5).1 ∧ M_12 = (f_X7_readMessage_1 (49 + 17 * q1) q2 M_5).2 := ⟨congrArg Prod.fst e9, congrArg Prod.snd e9⟩
          clear e9
          refine m_cvi C w hl cvX11_106 (k := 0) (by decide) rfl (q := (RX11, TX11, 7)) rfl rfl (As := [.int (v_13)]) (rest := []) (c_X11_tell l D b0 r M_12 (v_13) ) rfl rfl (Nat.le_of_ble_eq_true rfl) ⟨Nat.le_of_ble_eq_true rfl, Nat.le_of_ble_eq_true rfl⟩ ⟨Nat.zero_le _, Nat.zero_le _⟩ dX11_read_56 (fun v_15 M_14 H locs e9 w => ?_)
          obtain ⟨ev_15, eM_14⟩ : v_15 = (f_X11_tell (v_13) M_12).1 ∧ M_14 = (f_X11_tell (v_13) M_12).2 := ⟨congrArg Prod.fst e9, congrArg Prod.snd e9⟩
          clear e9
          exact m_iret C w (by subst eq1 eq2 eM_5 ev_13 eM_12 ev_15 eM_14; exact Eq.symm (((if_pos hS).trans ((if_pos h_7).trans ((if_neg hA).trans ((if_pos hB).trans rfl)))))) dX11_read_59
        · refine m_cvi C w hl cvX11_166 (k := 49 + 17 * q1) (by have := (mm_ses_of q1 (by omega)).1; omega) (mm_ses_of q1 (by omega)).2.2.1 (q := (RX7, TX7, 12)) rfl rfl (As := [.ref (r (1)), .int (nI (q2)), .ref (r (2))]) (rest := [.ref (r (0))]) (c_X7_readMessage_2 l D b0 r M_5 (49 + 17 * q1) q2 (mm_ses_of q1 (by omega)) (by omega) (by rw [hkp]; exact g_two (hI q1 (by omega)) hnb hA hB (g_reads hkp h_7)) (by rw [((show mm_fr [0] M M_5 from (by subst eM_5; exact ((w_f_X11_emptyTape _).on (by simp) (mm_fr_refl _ _)))) (49 + 17 * q1 + 5 + 3) (by first | (simp; done) | (simp; omega))).1]; exact hK q1 (by omega) (g_two (hI q1 (by omega)) hnb hA hB (g_reads hkp h_7)))) rfl rfl (Nat.le_of_ble_eq_true rfl) ⟨Nat.le_of_ble_eq_true rfl, Nat.le_of_ble_eq_true rfl⟩ ⟨Nat.zero_le _, Nat.zero_le _⟩ dX11_read_53 (fun v_17 M_16 H locs e9 w => ?_)
          obtain ⟨ev_17, eM_16⟩ : v_17 = (f_X7_readMessage_2 (49 + 17 * q1) q2 M_5).1 ∧ M_16 = (f_X7_readMessage_2 (49 + 17 * q1) q2 M_5).2 := ⟨congrArg Prod.fst e9, congrArg Prod.snd e9⟩
          clear e9
          refine m_cvi C w hl cvX11_106 (k := 0) (by decide) rfl (q := (RX11, TX11, 7)) rfl rfl (As := [.int (v_17)]) (rest := []) (c_X11_tell l D b0 r M_16 (v_17) ) rfl rfl (Nat.le_of_ble_eq_true rfl) ⟨Nat.le_of_ble_eq_true rfl, Nat.le_of_ble_eq_true rfl⟩ ⟨Nat.zero_le _, Nat.zero_le _⟩ dX11_read_56 (fun v_19 M_18 H locs e9 w => ?_)
          obtain ⟨ev_19, eM_18⟩ : v_19 = (f_X11_tell (v_17) M_16).1 ∧ M_18 = (f_X11_tell (v_17) M_16).2 := ⟨congrArg Prod.fst e9, congrArg Prod.snd e9⟩
          clear e9
          exact m_iret C w (by subst eq1 eq2 eM_5 ev_17 eM_16 ev_19 eM_18; exact Eq.symm (((if_pos hS).trans ((if_pos h_7).trans ((if_neg hA).trans ((if_neg hB).trans rfl)))))) dX11_read_59
    · refine lv_iconst (v := (-1)) C.1 C.2.1 dX11_read_35 (by decide) ?_
      exact m_iret C w (by subst eq1 eq2 eM_5; exact Eq.symm (((if_pos hS).trans ((if_neg (fun q => q h_7)).trans rfl)))) dX11_read_36
  · refine lv_aload_n C.1 C.2.1 dX11_read_0 rfl (lv_at hl 0 rfl) ?_
    refine lv_iload_n C.1 C.2.1 dX11_read_1 rfl (lv_at hl 1 rfl) ?_
    refine m_cvi C w hl cvX11_152 (k := 0) (by decide) rfl (q := (RX11, TX11, 7)) rfl rfl (As := [.int (v1)]) (rest := []) (c_X11_hasBegun l D b0 r M (v1) ) rfl rfl (Nat.le_of_ble_eq_true rfl) ⟨Nat.le_of_ble_eq_true rfl, Nat.le_of_ble_eq_true rfl⟩ ⟨Nat.zero_le _, Nat.zero_le _⟩ dX11_read_2 (fun v_20 M9 H locs e9 w => ?_)
    obtain ⟨ev_20, e9⟩ := e9
    rw [e9] at w
    subst ev_20
    refine lv_if_eq (tgt := 16) C.1 C.2.1 dX11_read_5 (by decide) (fun h_21 => ?_) (fun h_21 => ?_)
    · refine lv_bipush (v := (-2)) C.1 C.2.1 dX11_read_16 (by decide) ?_
      exact m_iret C w (by exact Eq.symm (((if_neg hS).trans ((if_pos h_21).trans rfl)))) dX11_read_18
    · refine lv_aload_n C.1 C.2.1 dX11_read_8 rfl (lv_at hl 0 rfl) ?_
      refine lv_iload_n C.1 C.2.1 dX11_read_9 rfl (lv_at hl 2 rfl) ?_
      refine m_cvi C w hl cvX11_65 (k := 0) (by decide) rfl (q := (RX11, TX11, 7)) rfl rfl (As := [.int (v2)]) (rest := []) (c_X11_isOnTape l D b0 r M (v2) ) rfl rfl (Nat.le_of_ble_eq_true rfl) ⟨Nat.le_of_ble_eq_true rfl, Nat.le_of_ble_eq_true rfl⟩ ⟨Nat.zero_le _, Nat.zero_le _⟩ dX11_read_10 (fun v_22 M9 H locs e9 w => ?_)
      obtain ⟨ev_22, e9⟩ := e9
      rw [e9] at w
      subst ev_22
      refine lv_if_ne (tgt := 19) C.1 C.2.1 dX11_read_13 (by decide) (fun h_23 => absurd h_23 (fun q => hS ⟨h_21, q⟩)) (fun _ => ?_)
      refine lv_bipush (v := (-2)) C.1 C.2.1 dX11_read_16 (by decide) ?_
      exact m_iret C w (by exact Eq.symm (((if_neg hS).trans ((if_neg h_21).trans rfl)))) dX11_read_18

def f_X11_send_B1 (q1 : Nat) (q2 : Nat) (M_6 : mm_M) : Int32 × mm_M :=
  if ¬ (f_X7_isOver (49 + 17 * q1) M_6) = (0 : Int32) then (let v_10 := (f_X7_sendMessage (49 + 17 * q1) q2 M_6).1
  let M_9 := (f_X7_sendMessage (49 + 17 * q1) q2 M_6).2
  let v_12 := (f_X11_tell (v_10) M_9).1
  let M_11 := (f_X11_tell (v_10) M_9).2
  ((v_12), M_11)) else (((-1 : Int32), M_6))
theorem w_f_X11_send_B1 (q1 : Nat) (q2 : Nat) (M_6 : mm_M) : mm_fr2 [34, 35, 33, 37, 40, 38, 39, 31, 2, 41, ((49 + 17 * q1) + 11), 0] M_6 (f_X11_send_B1 q1 q2 M_6) := by
  unfold f_X11_send_B1
  exact (mm_fr_ite2 (fun _ => ((w_f_X11_tell _ _).m.on (by simp) ((w_f_X7_sendMessage _ _ _).m.on (by simp) (mm_fr_refl _ _))).b) (fun _ => (mm_fr_refl _ _).b))
def f_X11_send (v1 : Int32) (v2 : Int32) (ts : Nat) (M : mm_M) : Int32 × mm_M :=
  if ¬ f_X11_hasBegun v1 M = 0 ∧ ¬ (900 : Int32) < v2 ∧ ¬ f_X11_isOnTape v2 M = 0 then (let q1 := (v1).toNatClampNeg
  let q2 := (v2).toNatClampNeg
  let M_6 := f_X11_emptyTape M
  f_X11_send_B1 q1 q2 M_6) else (if (f_X11_hasBegun (v1) M) = (0 : Int32) then (((-2 : Int32), M)) else (if (900 : Int32) < (v2) then (((-2 : Int32), M)) else (((-2 : Int32), M))))
theorem w_f_X11_send (v1 : Int32) (v2 : Int32) (ts : Nat) (M : mm_M) : mm_fr2 [0, 34, 35, 33, 37, 40, 38, 39, 31, 2, 41, ((49 + 17 * v1.toNatClampNeg) + 11)] M (f_X11_send v1 v2 ts M) := by
  unfold f_X11_send
  exact (mm_fr_ite2 (fun _ => ((w_f_X11_send_B1 _ _ _).on (by simp) ((w_f_X11_emptyTape _).on (by simp) (mm_fr_refl _ _)))) (fun _ => (mm_fr_ite2 (fun _ => (mm_fr_refl _ _).b) (fun _ => (mm_fr_ite2 (fun _ => (mm_fr_refl _ _).b) (fun _ => (mm_fr_refl _ _).b))))))
set_option maxHeartbeats 4000000 in
set_option maxRecDepth 100000 in
theorem c_X11_send (l : Launch) (D : va_G) (b0 : Nat) (r : Nat → Nat) (M : mm_M) (v1 : Int32) (v2 : Int32) (ts : Nat) (hts : ts ≤ 1000) (h1 : M.1 0 1 = nI ts) : mm_Mi l yX11_send cX11_send 3 .int 6 172 D b0 r [.ref (r (0)), .int (v1), .int (v2)] M (fun v M' => (v, M') = f_X11_send v1 v2 ts M) := by
  refine mm_enter (cc := cX11_send) (nL := 3) (ret := (some .int)) (by decide) (Nat.le_of_ble_eq_true rfl) ?_
  intro p e s m args below meth c C w ls hl
  have hl : lv_has ls 3 [(0, .ref (r (0))), (1, .int (v1)), (2, .int (v2))] := hl
  by_cases hS : ¬ f_X11_hasBegun v1 M = 0 ∧ ¬ (900 : Int32) < v2 ∧ ¬ f_X11_isOnTape v2 M = 0
  · obtain ⟨q1, eq1⟩ : ∃ zz, zz = (v1).toNatClampNeg := ⟨_, rfl⟩
    obtain ⟨hvq1, hbq1⟩ : v1 = nI q1 ∧ q1 < 4 := by rw [eq1]; exact (g_hasBegun hS.1).1
    rw [hvq1] at hl
    obtain ⟨q2, eq2⟩ : ∃ zz, zz = (v2).toNatClampNeg := ⟨_, rfl⟩
    obtain ⟨hvq2, hbq2⟩ : v2 = nI q2 ∧ q2 ≤ ts := by rw [eq2]; exact g_isOnTape hts h1 hS.2.2
    rw [hvq2] at hl
    have hTq1 : ¬ f_X11_hasBegun (nI q1) M = 0 := by rw [← hvq1]; exact hS.1
    have hTq2 : ¬ f_X11_isOnTape (nI q2) M = 0 := by rw [← hvq2]; exact hS.2.2
    have hq2 : q2 ≤ 900 := by have h9 := hS.2.1; rw [hvq2] at h9; exact Nat.not_lt.mp fun q => h9 (nI_lt q (by omega))
    refine lv_aload_n C.1 C.2.1 dX11_send_0 rfl (lv_at hl 0 rfl) ?_
    refine lv_iload_n C.1 C.2.1 dX11_send_1 rfl (lv_at hl 1 rfl) ?_
    refine m_cvi C w hl cvX11_152 (k := 0) (by decide) rfl (q := (RX11, TX11, 7)) rfl rfl (As := [.int (nI (q1))]) (rest := []) (c_X11_hasBegun l D b0 r M (nI (q1)) ) rfl rfl (Nat.le_of_ble_eq_true rfl) ⟨Nat.le_of_ble_eq_true rfl, Nat.le_of_ble_eq_true rfl⟩ ⟨Nat.zero_le _, Nat.zero_le _⟩ dX11_send_2 (fun v_1 M9 H locs e9 w => ?_)
    obtain ⟨ev_1, e9⟩ := e9
    rw [e9] at w
    subst ev_1
    refine lv_if_eq (tgt := 23) C.1 C.2.1 dX11_send_5 (by decide) (fun h_2 => absurd h_2 hTq1) (fun _ => ?_)
    refine lv_iload_n C.1 C.2.1 dX11_send_8 rfl (lv_at hl 2 rfl) ?_
    refine lv_sipush (v := 900) C.1 C.2.1 dX11_send_9 (by decide) ?_
    refine m_icmp_gt (tgt := 23) (a := q2) (b := 900) C (by omega) (by omega) dX11_send_12 (by decide) (fun h_3 => absurd h_3 (by omega)) (fun _ => ?_)
    refine lv_aload_n C.1 C.2.1 dX11_send_15 rfl (lv_at hl 0 rfl) ?_
    refine lv_iload_n C.1 C.2.1 dX11_send_16 rfl (lv_at hl 2 rfl) ?_
    refine m_cvi C w hl cvX11_65 (k := 0) (by decide) rfl (q := (RX11, TX11, 7)) rfl rfl (As := [.int (nI (q2))]) (rest := []) (c_X11_isOnTape l D b0 r M (nI (q2)) ) rfl rfl (Nat.le_of_ble_eq_true rfl) ⟨Nat.le_of_ble_eq_true rfl, Nat.le_of_ble_eq_true rfl⟩ ⟨Nat.zero_le _, Nat.zero_le _⟩ dX11_send_17 (fun v_4 M9 H locs e9 w => ?_)
    obtain ⟨ev_4, e9⟩ := e9
    rw [e9] at w
    subst ev_4
    refine lv_if_ne (tgt := 26) C.1 C.2.1 dX11_send_20 (by decide) (fun _ => ?_) (fun h_5 => absurd h_5 hTq2)
    refine lv_aload_n C.1 C.2.1 dX11_send_26 rfl (lv_at hl 0 rfl) ?_
    refine m_cvv C w hl cvX11_68 (k := 0) (by decide) rfl (q := (RX11, TX11, 7)) rfl rfl (As := []) (rest := []) (c_X11_emptyTape l D b0 r M  ) rfl rfl (Nat.le_of_ble_eq_true rfl) ⟨Nat.le_of_ble_eq_true rfl, Nat.le_of_ble_eq_true rfl⟩ ⟨Nat.zero_le _, Nat.zero_le _⟩ dX11_send_27 (fun M_6 H locs eM_6 w => ?_)
    refine lv_aload_n C.1 C.2.1 dX11_send_30 rfl (lv_at hl 0 rfl) ?_
    refine m_get C w (k := 0) (j := 6) (v := .ref (r (42))) flX11_37 (by decide) rfl rfl dX11_send_31 ?_
    refine lv_iload_n C.1 C.2.1 dX11_send_34 rfl (lv_at hl 1 rfl) ?_
    refine m_aald C w (k := 42) (i := q1) (n := 4) (wr := true) (q := 49 + 17 * q1) (by decide) rfl rfl (by omega) (by decide) (mm_ses_ds q1 (by omega)) dX11_send_35 ?_
    refine m_cvi C w hl cvX11_169 (k := 49 + 17 * q1) (by have := (mm_ses_of q1 (by omega)).1; omega) (mm_ses_of q1 (by omega)).2.2.1 (q := (RX7, TX7, 12)) rfl rfl (As := []) (rest := []) (c_X7_isOver l D b0 r M_6 (49 + 17 * q1) (mm_ses_of q1 (by omega))) rfl rfl (Nat.le_of_ble_eq_true rfl) ⟨Nat.le_of_ble_eq_true rfl, Nat.le_of_ble_eq_true rfl⟩ ⟨Nat.zero_le _, Nat.zero_le _⟩ dX11_send_36 (fun v_7 M9 H locs e9 w => ?_)
    obtain ⟨ev_7, e9⟩ := e9
    rw [e9] at w
    subst ev_7
    refine lv_if_ne (tgt := 44) C.1 C.2.1 dX11_send_39 (by decide) (fun h_8 => ?_) (fun h_8 => ?_)
    · refine lv_aload_n C.1 C.2.1 dX11_send_44 rfl (lv_at hl 0 rfl) ?_
      refine lv_aload_n C.1 C.2.1 dX11_send_45 rfl (lv_at hl 0 rfl) ?_
      refine m_get C w (k := 0) (j := 6) (v := .ref (r (42))) flX11_37 (by decide) rfl rfl dX11_send_46 ?_
      refine lv_iload_n C.1 C.2.1 dX11_send_49 rfl (lv_at hl 1 rfl) ?_
      refine m_aald C w (k := 42) (i := q1) (n := 4) (wr := true) (q := 49 + 17 * q1) (by decide) rfl rfl (by omega) (by decide) (mm_ses_ds q1 (by omega)) dX11_send_50 ?_
      refine lv_aload_n C.1 C.2.1 dX11_send_51 rfl (lv_at hl 0 rfl) ?_
      refine m_get C w (k := 0) (j := 0) (v := .ref (r (1))) flX11_9 (by decide) rfl rfl dX11_send_52 ?_
      refine lv_iload_n C.1 C.2.1 dX11_send_55 rfl (lv_at hl 2 rfl) ?_
      refine lv_aload_n C.1 C.2.1 dX11_send_56 rfl (lv_at hl 0 rfl) ?_
      refine m_get C w (k := 0) (j := 2) (v := .ref (r (2))) flX11_17 (by decide) rfl rfl dX11_send_57 ?_
      refine m_cvi C w hl cvX11_172 (k := 49 + 17 * q1) (by have := (mm_ses_of q1 (by omega)).1; omega) (mm_ses_of q1 (by omega)).2.2.1 (q := (RX7, TX7, 12)) rfl rfl (As := [.ref (r (1)), .int (nI (q2)), .ref (r (2))]) (rest := [.ref (r (0))]) (c_X7_sendMessage l D b0 r M_6 (49 + 17 * q1) q2 (mm_ses_of q1 (by omega)) (by omega)) rfl rfl (Nat.le_of_ble_eq_true rfl) ⟨Nat.le_of_ble_eq_true rfl, Nat.le_of_ble_eq_true rfl⟩ ⟨Nat.zero_le _, Nat.zero_le _⟩ dX11_send_60 (fun v_10 M_9 H locs e9 w => ?_)
      obtain ⟨ev_10, eM_9⟩ : v_10 = (f_X7_sendMessage (49 + 17 * q1) q2 M_6).1 ∧ M_9 = (f_X7_sendMessage (49 + 17 * q1) q2 M_6).2 := ⟨congrArg Prod.fst e9, congrArg Prod.snd e9⟩
      clear e9
      refine m_cvi C w hl cvX11_106 (k := 0) (by decide) rfl (q := (RX11, TX11, 7)) rfl rfl (As := [.int (v_10)]) (rest := []) (c_X11_tell l D b0 r M_9 (v_10) ) rfl rfl (Nat.le_of_ble_eq_true rfl) ⟨Nat.le_of_ble_eq_true rfl, Nat.le_of_ble_eq_true rfl⟩ ⟨Nat.zero_le _, Nat.zero_le _⟩ dX11_send_63 (fun v_12 M_11 H locs e9 w => ?_)
      obtain ⟨ev_12, eM_11⟩ : v_12 = (f_X11_tell (v_10) M_9).1 ∧ M_11 = (f_X11_tell (v_10) M_9).2 := ⟨congrArg Prod.fst e9, congrArg Prod.snd e9⟩
      clear e9
      exact m_iret C w (by subst eq1 eq2 eM_6 ev_10 eM_9 ev_12 eM_11; exact Eq.symm (((if_pos hS).trans ((if_pos h_8).trans rfl)))) dX11_send_66
    · refine lv_iconst (v := (-1)) C.1 C.2.1 dX11_send_42 (by decide) ?_
      exact m_iret C w (by subst eq1 eq2 eM_6; exact Eq.symm (((if_pos hS).trans ((if_neg (fun q => q h_8)).trans rfl)))) dX11_send_43
  · refine lv_aload_n C.1 C.2.1 dX11_send_0 rfl (lv_at hl 0 rfl) ?_
    refine lv_iload_n C.1 C.2.1 dX11_send_1 rfl (lv_at hl 1 rfl) ?_
    refine m_cvi C w hl cvX11_152 (k := 0) (by decide) rfl (q := (RX11, TX11, 7)) rfl rfl (As := [.int (v1)]) (rest := []) (c_X11_hasBegun l D b0 r M (v1) ) rfl rfl (Nat.le_of_ble_eq_true rfl) ⟨Nat.le_of_ble_eq_true rfl, Nat.le_of_ble_eq_true rfl⟩ ⟨Nat.zero_le _, Nat.zero_le _⟩ dX11_send_2 (fun v_13 M9 H locs e9 w => ?_)
    obtain ⟨ev_13, e9⟩ := e9
    rw [e9] at w
    subst ev_13
    refine lv_if_eq (tgt := 23) C.1 C.2.1 dX11_send_5 (by decide) (fun h_14 => ?_) (fun h_14 => ?_)
    · refine lv_bipush (v := (-2)) C.1 C.2.1 dX11_send_23 (by decide) ?_
      exact m_iret C w (by exact Eq.symm (((if_neg hS).trans ((if_pos h_14).trans rfl)))) dX11_send_25
    · refine lv_iload_n C.1 C.2.1 dX11_send_8 rfl (lv_at hl 2 rfl) ?_
      refine lv_sipush (v := 900) C.1 C.2.1 dX11_send_9 (by decide) ?_
      refine lv_icmp_gt (tgt := 23) C.1 C.2.1 dX11_send_12 (by decide) (fun h_15 => ?_) (fun h_15 => ?_)
      · refine lv_bipush (v := (-2)) C.1 C.2.1 dX11_send_23 (by decide) ?_
        exact m_iret C w (by exact Eq.symm (((if_neg hS).trans ((if_neg h_14).trans ((if_pos h_15).trans rfl))))) dX11_send_25
      · refine lv_aload_n C.1 C.2.1 dX11_send_15 rfl (lv_at hl 0 rfl) ?_
        refine lv_iload_n C.1 C.2.1 dX11_send_16 rfl (lv_at hl 2 rfl) ?_
        refine m_cvi C w hl cvX11_65 (k := 0) (by decide) rfl (q := (RX11, TX11, 7)) rfl rfl (As := [.int (v2)]) (rest := []) (c_X11_isOnTape l D b0 r M (v2) ) rfl rfl (Nat.le_of_ble_eq_true rfl) ⟨Nat.le_of_ble_eq_true rfl, Nat.le_of_ble_eq_true rfl⟩ ⟨Nat.zero_le _, Nat.zero_le _⟩ dX11_send_17 (fun v_16 M9 H locs e9 w => ?_)
        obtain ⟨ev_16, e9⟩ := e9
        rw [e9] at w
        subst ev_16
        refine lv_if_ne (tgt := 26) C.1 C.2.1 dX11_send_20 (by decide) (fun h_17 => absurd h_17 (fun q => hS ⟨h_14, h_15, q⟩)) (fun _ => ?_)
        refine lv_bipush (v := (-2)) C.1 C.2.1 dX11_send_23 (by decide) ?_
        exact m_iret C w (by exact Eq.symm (((if_neg hS).trans ((if_neg h_14).trans ((if_neg h_15).trans rfl))))) dX11_send_25

def f_X11_receive_B1 (q1 : Nat) (q2 : Nat) (M_5 : mm_M) : Int32 × mm_M :=
  if ¬ (f_X7_isOver (49 + 17 * q1) M_5) = (0 : Int32) then (let v_9 := (f_X7_receiveMessage (49 + 17 * q1) q2 M_5).1
  let M_8 := (f_X7_receiveMessage (49 + 17 * q1) q2 M_5).2
  let v_11 := (f_X11_tell (v_9) M_8).1
  let M_10 := (f_X11_tell (v_9) M_8).2
  ((v_11), M_10)) else (((-1 : Int32), M_5))
theorem w_f_X11_receive_B1 (q1 : Nat) (q2 : Nat) (M_5 : mm_M) : mm_fr2 [34, 35, 33, 37, 40, 38, 39, 31, 41, 2, ((49 + 17 * q1) + 14), (49 + 17 * q1), 0] M_5 (f_X11_receive_B1 q1 q2 M_5) := by
  unfold f_X11_receive_B1
  exact (mm_fr_ite2 (fun _ => ((w_f_X11_tell _ _).m.on (by simp) ((w_f_X7_receiveMessage _ _ _).m.on (by simp) (mm_fr_refl _ _))).b) (fun _ => (mm_fr_refl _ _).b))
def f_X11_receive (v1 : Int32) (v2 : Int32) (ts : Nat) (M : mm_M) : Int32 × mm_M :=
  if ¬ f_X11_hasBegun v1 M = 0 ∧ ¬ f_X11_isOnTape v2 M = 0 then (let q1 := (v1).toNatClampNeg
  let q2 := (v2).toNatClampNeg
  let M_5 := f_X11_emptyTape M
  f_X11_receive_B1 q1 q2 M_5) else (if (f_X11_hasBegun (v1) M) = (0 : Int32) then (((-2 : Int32), M)) else (((-2 : Int32), M)))
theorem w_f_X11_receive (v1 : Int32) (v2 : Int32) (ts : Nat) (M : mm_M) : mm_fr2 [0, 34, 35, 33, 37, 40, 38, 39, 31, 41, 2, ((49 + 17 * v1.toNatClampNeg) + 14), (49 + 17 * v1.toNatClampNeg)] M (f_X11_receive v1 v2 ts M) := by
  unfold f_X11_receive
  exact (mm_fr_ite2 (fun _ => ((w_f_X11_receive_B1 _ _ _).on (by simp) ((w_f_X11_emptyTape _).on (by simp) (mm_fr_refl _ _)))) (fun _ => (mm_fr_ite2 (fun _ => (mm_fr_refl _ _).b) (fun _ => (mm_fr_refl _ _).b))))
set_option maxHeartbeats 4000000 in
set_option maxRecDepth 100000 in
theorem c_X11_receive (l : Launch) (D : va_G) (b0 : Nat) (r : Nat → Nat) (M : mm_M) (v1 : Int32) (v2 : Int32) (ts : Nat) (hts : ts ≤ 1000) (h1 : M.1 0 1 = nI ts) : mm_Mi l yX11_receive cX11_receive 3 .int 6 176 D b0 r [.ref (r (0)), .int (v1), .int (v2)] M (fun v M' => (v, M') = f_X11_receive v1 v2 ts M) := by
  refine mm_enter (cc := cX11_receive) (nL := 3) (ret := (some .int)) (by decide) (Nat.le_of_ble_eq_true rfl) ?_
  intro p e s m args below meth c C w ls hl
  have hl : lv_has ls 3 [(0, .ref (r (0))), (1, .int (v1)), (2, .int (v2))] := hl
  by_cases hS : ¬ f_X11_hasBegun v1 M = 0 ∧ ¬ f_X11_isOnTape v2 M = 0
  · obtain ⟨q1, eq1⟩ : ∃ zz, zz = (v1).toNatClampNeg := ⟨_, rfl⟩
    obtain ⟨hvq1, hbq1⟩ : v1 = nI q1 ∧ q1 < 4 := by rw [eq1]; exact (g_hasBegun hS.1).1
    rw [hvq1] at hl
    obtain ⟨q2, eq2⟩ : ∃ zz, zz = (v2).toNatClampNeg := ⟨_, rfl⟩
    obtain ⟨hvq2, hbq2⟩ : v2 = nI q2 ∧ q2 ≤ ts := by rw [eq2]; exact g_isOnTape hts h1 hS.2
    rw [hvq2] at hl
    have hTq1 : ¬ f_X11_hasBegun (nI q1) M = 0 := by rw [← hvq1]; exact hS.1
    have hTq2 : ¬ f_X11_isOnTape (nI q2) M = 0 := by rw [← hvq2]; exact hS.2
    refine lv_aload_n C.1 C.2.1 dX11_receive_0 rfl (lv_at hl 0 rfl) ?_
    refine lv_iload_n C.1 C.2.1 dX11_receive_1 rfl (lv_at hl 1 rfl) ?_
    refine m_cvi C w hl cvX11_152 (k := 0) (by decide) rfl (q := (RX11, TX11, 7)) rfl rfl (As := [.int (nI (q1))]) (rest := []) (c_X11_hasBegun l D b0 r M (nI (q1)) ) rfl rfl (Nat.le_of_ble_eq_true rfl) ⟨Nat.le_of_ble_eq_true rfl, Nat.le_of_ble_eq_true rfl⟩ ⟨Nat.zero_le _, Nat.zero_le _⟩ dX11_receive_2 (fun v_1 M9 H locs e9 w => ?_)
    obtain ⟨ev_1, e9⟩ := e9
    rw [e9] at w
    subst ev_1
    refine lv_if_eq (tgt := 16) C.1 C.2.1 dX11_receive_5 (by decide) (fun h_2 => absurd h_2 hTq1) (fun _ => ?_)
    refine lv_aload_n C.1 C.2.1 dX11_receive_8 rfl (lv_at hl 0 rfl) ?_
    refine lv_iload_n C.1 C.2.1 dX11_receive_9 rfl (lv_at hl 2 rfl) ?_
    refine m_cvi C w hl cvX11_65 (k := 0) (by decide) rfl (q := (RX11, TX11, 7)) rfl rfl (As := [.int (nI (q2))]) (rest := []) (c_X11_isOnTape l D b0 r M (nI (q2)) ) rfl rfl (Nat.le_of_ble_eq_true rfl) ⟨Nat.le_of_ble_eq_true rfl, Nat.le_of_ble_eq_true rfl⟩ ⟨Nat.zero_le _, Nat.zero_le _⟩ dX11_receive_10 (fun v_3 M9 H locs e9 w => ?_)
    obtain ⟨ev_3, e9⟩ := e9
    rw [e9] at w
    subst ev_3
    refine lv_if_ne (tgt := 19) C.1 C.2.1 dX11_receive_13 (by decide) (fun _ => ?_) (fun h_4 => absurd h_4 hTq2)
    refine lv_aload_n C.1 C.2.1 dX11_receive_19 rfl (lv_at hl 0 rfl) ?_
    refine m_cvv C w hl cvX11_68 (k := 0) (by decide) rfl (q := (RX11, TX11, 7)) rfl rfl (As := []) (rest := []) (c_X11_emptyTape l D b0 r M  ) rfl rfl (Nat.le_of_ble_eq_true rfl) ⟨Nat.le_of_ble_eq_true rfl, Nat.le_of_ble_eq_true rfl⟩ ⟨Nat.zero_le _, Nat.zero_le _⟩ dX11_receive_20 (fun M_5 H locs eM_5 w => ?_)
    refine lv_aload_n C.1 C.2.1 dX11_receive_23 rfl (lv_at hl 0 rfl) ?_
    refine m_get C w (k := 0) (j := 6) (v := .ref (r (42))) flX11_37 (by decide) rfl rfl dX11_receive_24 ?_
    refine lv_iload_n C.1 C.2.1 dX11_receive_27 rfl (lv_at hl 1 rfl) ?_
    refine m_aald C w (k := 42) (i := q1) (n := 4) (wr := true) (q := 49 + 17 * q1) (by decide) rfl rfl (by omega) (by decide) (mm_ses_ds q1 (by omega)) dX11_receive_28 ?_
    refine m_cvi C w hl cvX11_169 (k := 49 + 17 * q1) (by have := (mm_ses_of q1 (by omega)).1; omega) (mm_ses_of q1 (by omega)).2.2.1 (q := (RX7, TX7, 12)) rfl rfl (As := []) (rest := []) (c_X7_isOver l D b0 r M_5 (49 + 17 * q1) (mm_ses_of q1 (by omega))) rfl rfl (Nat.le_of_ble_eq_true rfl) ⟨Nat.le_of_ble_eq_true rfl, Nat.le_of_ble_eq_true rfl⟩ ⟨Nat.zero_le _, Nat.zero_le _⟩ dX11_receive_29 (fun v_6 M9 H locs e9 w => ?_)
    obtain ⟨ev_6, e9⟩ := e9
    rw [e9] at w
    subst ev_6
    refine lv_if_ne (tgt := 37) C.1 C.2.1 dX11_receive_32 (by decide) (fun h_7 => ?_) (fun h_7 => ?_)
    · refine lv_aload_n C.1 C.2.1 dX11_receive_37 rfl (lv_at hl 0 rfl) ?_
      refine lv_aload_n C.1 C.2.1 dX11_receive_38 rfl (lv_at hl 0 rfl) ?_
      refine m_get C w (k := 0) (j := 6) (v := .ref (r (42))) flX11_37 (by decide) rfl rfl dX11_receive_39 ?_
      refine lv_iload_n C.1 C.2.1 dX11_receive_42 rfl (lv_at hl 1 rfl) ?_
      refine m_aald C w (k := 42) (i := q1) (n := 4) (wr := true) (q := 49 + 17 * q1) (by decide) rfl rfl (by omega) (by decide) (mm_ses_ds q1 (by omega)) dX11_receive_43 ?_
      refine lv_aload_n C.1 C.2.1 dX11_receive_44 rfl (lv_at hl 0 rfl) ?_
      refine m_get C w (k := 0) (j := 0) (v := .ref (r (1))) flX11_9 (by decide) rfl rfl dX11_receive_45 ?_
      refine lv_iload_n C.1 C.2.1 dX11_receive_48 rfl (lv_at hl 2 rfl) ?_
      refine lv_aload_n C.1 C.2.1 dX11_receive_49 rfl (lv_at hl 0 rfl) ?_
      refine m_get C w (k := 0) (j := 2) (v := .ref (r (2))) flX11_17 (by decide) rfl rfl dX11_receive_50 ?_
      refine m_cvi C w hl cvX11_175 (k := 49 + 17 * q1) (by have := (mm_ses_of q1 (by omega)).1; omega) (mm_ses_of q1 (by omega)).2.2.1 (q := (RX7, TX7, 12)) rfl rfl (As := [.ref (r (1)), .int (nI (q2)), .ref (r (2))]) (rest := [.ref (r (0))]) (c_X7_receiveMessage l D b0 r M_5 (49 + 17 * q1) q2 (mm_ses_of q1 (by omega)) (by omega)) rfl rfl (Nat.le_of_ble_eq_true rfl) ⟨Nat.le_of_ble_eq_true rfl, Nat.le_of_ble_eq_true rfl⟩ ⟨Nat.zero_le _, Nat.zero_le _⟩ dX11_receive_53 (fun v_9 M_8 H locs e9 w => ?_)
      obtain ⟨ev_9, eM_8⟩ : v_9 = (f_X7_receiveMessage (49 + 17 * q1) q2 M_5).1 ∧ M_8 = (f_X7_receiveMessage (49 + 17 * q1) q2 M_5).2 := ⟨congrArg Prod.fst e9, congrArg Prod.snd e9⟩
      clear e9
      refine m_cvi C w hl cvX11_106 (k := 0) (by decide) rfl (q := (RX11, TX11, 7)) rfl rfl (As := [.int (v_9)]) (rest := []) (c_X11_tell l D b0 r M_8 (v_9) ) rfl rfl (Nat.le_of_ble_eq_true rfl) ⟨Nat.le_of_ble_eq_true rfl, Nat.le_of_ble_eq_true rfl⟩ ⟨Nat.zero_le _, Nat.zero_le _⟩ dX11_receive_56 (fun v_11 M_10 H locs e9 w => ?_)
      obtain ⟨ev_11, eM_10⟩ : v_11 = (f_X11_tell (v_9) M_8).1 ∧ M_10 = (f_X11_tell (v_9) M_8).2 := ⟨congrArg Prod.fst e9, congrArg Prod.snd e9⟩
      clear e9
      exact m_iret C w (by subst eq1 eq2 eM_5 ev_9 eM_8 ev_11 eM_10; exact Eq.symm (((if_pos hS).trans ((if_pos h_7).trans rfl)))) dX11_receive_59
    · refine lv_iconst (v := (-1)) C.1 C.2.1 dX11_receive_35 (by decide) ?_
      exact m_iret C w (by subst eq1 eq2 eM_5; exact Eq.symm (((if_pos hS).trans ((if_neg (fun q => q h_7)).trans rfl)))) dX11_receive_36
  · refine lv_aload_n C.1 C.2.1 dX11_receive_0 rfl (lv_at hl 0 rfl) ?_
    refine lv_iload_n C.1 C.2.1 dX11_receive_1 rfl (lv_at hl 1 rfl) ?_
    refine m_cvi C w hl cvX11_152 (k := 0) (by decide) rfl (q := (RX11, TX11, 7)) rfl rfl (As := [.int (v1)]) (rest := []) (c_X11_hasBegun l D b0 r M (v1) ) rfl rfl (Nat.le_of_ble_eq_true rfl) ⟨Nat.le_of_ble_eq_true rfl, Nat.le_of_ble_eq_true rfl⟩ ⟨Nat.zero_le _, Nat.zero_le _⟩ dX11_receive_2 (fun v_12 M9 H locs e9 w => ?_)
    obtain ⟨ev_12, e9⟩ := e9
    rw [e9] at w
    subst ev_12
    refine lv_if_eq (tgt := 16) C.1 C.2.1 dX11_receive_5 (by decide) (fun h_13 => ?_) (fun h_13 => ?_)
    · refine lv_bipush (v := (-2)) C.1 C.2.1 dX11_receive_16 (by decide) ?_
      exact m_iret C w (by exact Eq.symm (((if_neg hS).trans ((if_pos h_13).trans rfl)))) dX11_receive_18
    · refine lv_aload_n C.1 C.2.1 dX11_receive_8 rfl (lv_at hl 0 rfl) ?_
      refine lv_iload_n C.1 C.2.1 dX11_receive_9 rfl (lv_at hl 2 rfl) ?_
      refine m_cvi C w hl cvX11_65 (k := 0) (by decide) rfl (q := (RX11, TX11, 7)) rfl rfl (As := [.int (v2)]) (rest := []) (c_X11_isOnTape l D b0 r M (v2) ) rfl rfl (Nat.le_of_ble_eq_true rfl) ⟨Nat.le_of_ble_eq_true rfl, Nat.le_of_ble_eq_true rfl⟩ ⟨Nat.zero_le _, Nat.zero_le _⟩ dX11_receive_10 (fun v_14 M9 H locs e9 w => ?_)
      obtain ⟨ev_14, e9⟩ := e9
      rw [e9] at w
      subst ev_14
      refine lv_if_ne (tgt := 19) C.1 C.2.1 dX11_receive_13 (by decide) (fun h_15 => absurd h_15 (fun q => hS ⟨h_13, q⟩)) (fun _ => ?_)
      refine lv_bipush (v := (-2)) C.1 C.2.1 dX11_receive_16 (by decide) ?_
      exact m_iret C w (by exact Eq.symm (((if_neg hS).trans ((if_neg h_13).trans rfl)))) dX11_receive_18
