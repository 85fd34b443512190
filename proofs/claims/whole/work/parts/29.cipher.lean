theorem mm_cip.ne1 {z z2 : Nat} (hz : mm_cip z) (hz2 : mm_cip z2) : z2 ≠ z + 1 := fun e => by
  have := hz.2.2.1
  rw [← e, hz2.2.1] at this
  cases this
theorem mm_cip.ne2 {z z2 : Nat} (hz : mm_cip z) (hz2 : mm_cip z2) : z2 ≠ z + 2 := fun e => by
  have := hz.2.2.2.1
  rw [← e, hz2.2.1] at this
  cases this

def f_X3_forgetKey (z : Nat) (M : mm_M) : mm_M :=
  let M_1 := mm_w M z 3 (0 : Int32)
  let M_2 := mm_wl M_1 z 4 (0)
  M_2
theorem w_f_X3_forgetKey (z : Nat) (M : mm_M) : mm_fr [z] M (f_X3_forgetKey z M) := by
  unfold f_X3_forgetKey
  exact (mm_fr_wl (by simp) (mm_fr_w (by simp) (mm_fr_refl _ _)))
set_option maxHeartbeats 4000000 in
set_option maxRecDepth 100000 in
theorem c_X3_forgetKey (l : Launch) (D : va_G) (b0 : Nat) (r : Nat → Nat) (M : mm_M) (z : Nat) (hz : mm_cip z) : mm_Mv l yX3_forgetKey cX3_forgetKey 1 0 0 D b0 r [.ref (r (z))] M (fun M' => M' = f_X3_forgetKey z M) := by
  refine mm_enter (cc := cX3_forgetKey) (nL := 1) (ret := none) (by decide) (Nat.le_of_ble_eq_true rfl) ?_
  intro p e s m args below meth c C w ls hl
  have hl : lv_has ls 1 [(0, .ref (r (z)))] := hl
  refine lv_aload_n C.1 C.2.1 dX3_forgetKey_0 rfl (lv_at hl 0 rfl) ?_
  refine lv_iconst (v := 0) C.1 C.2.1 dX3_forgetKey_1 (by decide) ?_
  refine m_putz C w (k := z) (j := 3) (x := (0 : Int32)) flX3_18w (by have := hz.1; omega) hz.2.1 hz.2.2.2.2.2.2.2.1 (by decide) dX3_forgetKey_2 (fun H locs w => ?_)
  obtain ⟨M_1, eM_1⟩ : ∃ zz, zz = mm_w M z 3 (0 : Int32) := ⟨_, rfl⟩
  rw [← eM_1] at w
  refine lv_aload_n C.1 C.2.1 dX3_forgetKey_5 rfl (lv_at hl 0 rfl) ?_
  refine lv_lconst (v := 0) C.1 C.2.1 dX3_forgetKey_6 (by decide) ?_
  refine m_putl C w (k := z) (j := 4) (x := (0)) flX3_22w (by have := hz.1; omega) hz.2.1 hz.2.2.2.2.2.2.2.2 dX3_forgetKey_7 (fun H locs w => ?_)
  obtain ⟨M_2, eM_2⟩ : ∃ zz, zz = mm_wl M_1 z 4 (0) := ⟨_, rfl⟩
  rw [← eM_2] at w
  exact m_vret C w (by subst eM_1 eM_2; exact Eq.symm (rfl)) dX3_forgetKey_10

def f_X3_useNewKey (z : Nat) (M : mm_M) : mm_M :=
  let M_1 := mm_w M z 3 (1 : Int32)
  let M_2 := mm_wl M_1 z 4 (0)
  M_2
theorem w_f_X3_useNewKey (z : Nat) (M : mm_M) : mm_fr [z] M (f_X3_useNewKey z M) := by
  unfold f_X3_useNewKey
  exact (mm_fr_wl (by simp) (mm_fr_w (by simp) (mm_fr_refl _ _)))
set_option maxHeartbeats 4000000 in
set_option maxRecDepth 100000 in
theorem c_X3_useNewKey (l : Launch) (D : va_G) (b0 : Nat) (r : Nat → Nat) (M : mm_M) (z : Nat) (hz : mm_cip z) : mm_Mv l yX3_useNewKey cX3_useNewKey 1 0 0 D b0 r [.ref (r (z))] M (fun M' => M' = f_X3_useNewKey z M) := by
  refine mm_enter (cc := cX3_useNewKey) (nL := 1) (ret := none) (by decide) (Nat.le_of_ble_eq_true rfl) ?_
  intro p e s m args below meth c C w ls hl
  have hl : lv_has ls 1 [(0, .ref (r (z)))] := hl
  refine lv_aload_n C.1 C.2.1 dX3_useNewKey_0 rfl (lv_at hl 0 rfl) ?_
  refine lv_iconst (v := 1) C.1 C.2.1 dX3_useNewKey_1 (by decide) ?_
  refine m_putz C w (k := z) (j := 3) (x := (1 : Int32)) flX3_18w (by have := hz.1; omega) hz.2.1 hz.2.2.2.2.2.2.2.1 (by decide) dX3_useNewKey_2 (fun H locs w => ?_)
  obtain ⟨M_1, eM_1⟩ : ∃ zz, zz = mm_w M z 3 (1 : Int32) := ⟨_, rfl⟩
  rw [← eM_1] at w
  refine lv_aload_n C.1 C.2.1 dX3_useNewKey_5 rfl (lv_at hl 0 rfl) ?_
  refine lv_lconst (v := 0) C.1 C.2.1 dX3_useNewKey_6 (by decide) ?_
  refine m_putl C w (k := z) (j := 4) (x := (0)) flX3_22w (by have := hz.1; omega) hz.2.1 hz.2.2.2.2.2.2.2.2 dX3_useNewKey_7 (fun H locs w => ?_)
  obtain ⟨M_2, eM_2⟩ : ∃ zz, zz = mm_wl M_1 z 4 (0) := ⟨_, rfl⟩
  rw [← eM_2] at w
  exact m_vret C w (by subst eM_1 eM_2; exact Eq.symm (rfl)) dX3_useNewKey_10

def f_X3_nonce (z : Nat) (M : mm_M) : Int32 :=
  (((M.2 z 4) : Int64).toInt32)
set_option maxHeartbeats 4000000 in
set_option maxRecDepth 100000 in
theorem c_X3_nonce (l : Launch) (D : va_G) (b0 : Nat) (r : Nat → Nat) (M : mm_M) (z : Nat) (hz : mm_cip z) : mm_Mi l yX3_nonce cX3_nonce 1 .int 0 0 D b0 r [.ref (r (z))] M (fun v M' => v = f_X3_nonce z M ∧ M' = M) := by
  refine mm_enter (cc := cX3_nonce) (nL := 1) (ret := (some .int)) (by decide) (Nat.le_of_ble_eq_true rfl) ?_
  intro p e s m args below meth c C w ls hl
  have hl : lv_has ls 1 [(0, .ref (r (z)))] := hl
  refine lv_aload_n C.1 C.2.1 dX3_nonce_0 rfl (lv_at hl 0 rfl) ?_
  refine m_get C w (k := z) (j := 4) (v := .long (M.2 z 4)) flX3_22 (by have := hz.1; omega) hz.2.1 (mm_v1 hz.2.2.2.2.2.2.2.2) dX3_nonce_1 ?_
  refine lv_l2i (v := ((M.2 z 4) : Int64).toInt32) C.1 C.2.1 dX3_nonce_4 rfl ?_
  exact m_iret C w ⟨by exact Eq.symm (rfl), rfl⟩ dX3_nonce_5

def f_X3_copyFrom (z : Nat) (z2 : Nat) (M : mm_M) : mm_M :=
  let M_1 := mm_cp M (z2 + 1) 0 (z + 1) 0 32
  let M_2 := mm_w M_1 z 3 (M_1.1 z2 3)
  let M_3 := mm_wl M_2 z 4 (M_2.2 z2 4)
  M_3
theorem w_f_X3_copyFrom (z : Nat) (z2 : Nat) (M : mm_M) : mm_fr [z + 1, z] M (f_X3_copyFrom z z2 M) := by
  unfold f_X3_copyFrom
  exact (mm_fr_wl (by simp) (mm_fr_w (by simp) (mm_fr_cp (by simp) (mm_fr_refl _ _))))
set_option maxHeartbeats 4000000 in
set_option maxRecDepth 100000 in
theorem c_X3_copyFrom (l : Launch) (D : va_G) (b0 : Nat) (r : Nat → Nat) (M : mm_M) (z : Nat) (z2 : Nat) (hz : mm_cip z) (hz2 : mm_cip z2) : mm_Mv l yX3_copyFrom cX3_copyFrom 2 1 48 D b0 r [.ref (r (z)), .ref (r (z2))] M (fun M' => M' = f_X3_copyFrom z z2 M) := by
  refine mm_enter (cc := cX3_copyFrom) (nL := 2) (ret := none) (by decide) (Nat.le_of_ble_eq_true rfl) ?_
  intro p e s m args below meth c C w ls hl
  have hl : lv_has ls 2 [(0, .ref (r (z))), (1, .ref (r (z2)))] := hl
  refine lv_aload_n C.1 C.2.1 dX3_copyFrom_0 rfl (lv_at hl 1 rfl) ?_
  refine m_get C w (k := z2) (j := 0) (v := .ref (r (z2 + 1))) flX3_9 (by have := hz2.1; omega) hz2.2.1 (mm_v3 hz2.2.2.2.2.1) dX3_copyFrom_1 ?_
  refine lv_iconst (v := 0) C.1 C.2.1 dX3_copyFrom_4 (by decide) ?_
  refine lv_aload_n C.1 C.2.1 dX3_copyFrom_5 rfl (lv_at hl 0 rfl) ?_
  refine m_get C w (k := z) (j := 0) (v := .ref (r (z + 1))) flX3_9 (by have := hz.1; omega) hz.2.1 (mm_v3 hz.2.2.2.2.1) dX3_copyFrom_6 ?_
  refine lv_iconst (v := 0) C.1 C.2.1 dX3_copyFrom_9 (by decide) ?_
  refine lv_bipush (v := 32) C.1 C.2.1 dX3_copyFrom_10 (by decide) ?_
  refine m_cpb C w hl (k := z2 + 1) (k2 := z + 1) (sp := 0) (dp := 0) (n := 32) (by have := hz2.1; omega) hz2.2.2.1 (by decide) (by have := hz.1; omega) hz.2.2.1 (by decide) acX3_30 (by omega) (by omega) (Nat.le_of_ble_eq_true rfl) (Nat.le_of_ble_eq_true rfl) dX3_copyFrom_12 (fun H locs w => ?_)
  obtain ⟨M_1, eM_1⟩ : ∃ zz, zz = mm_cp M (z2 + 1) 0 (z + 1) 0 32 := ⟨_, rfl⟩
  rw [← eM_1] at w
  refine lv_aload_n C.1 C.2.1 dX3_copyFrom_15 rfl (lv_at hl 0 rfl) ?_
  refine lv_aload_n C.1 C.2.1 dX3_copyFrom_16 rfl (lv_at hl 1 rfl) ?_
  refine m_get C w (k := z2) (j := 3) (v := .int (M_1.1 z2 3)) flX3_18 (by have := hz2.1; omega) hz2.2.1 (mm_v0 hz2.2.2.2.2.2.2.2.1) dX3_copyFrom_17 ?_
  refine m_putz C w (k := z) (j := 3) (x := (M_1.1 z2 3)) flX3_18w (by have := hz.1; omega) hz.2.1 hz.2.2.2.2.2.2.2.1 (w.1.keyed (k := z2) (by have := hz2.1; omega) hz2.2.1) dX3_copyFrom_20 (fun H locs w => ?_)
  obtain ⟨M_2, eM_2⟩ : ∃ zz, zz = mm_w M_1 z 3 (M_1.1 z2 3) := ⟨_, rfl⟩
  rw [← eM_2] at w
  refine lv_aload_n C.1 C.2.1 dX3_copyFrom_23 rfl (lv_at hl 0 rfl) ?_
  refine lv_aload_n C.1 C.2.1 dX3_copyFrom_24 rfl (lv_at hl 1 rfl) ?_
  refine m_get C w (k := z2) (j := 4) (v := .long (M_2.2 z2 4)) flX3_22 (by have := hz2.1; omega) hz2.2.1 (mm_v1 hz2.2.2.2.2.2.2.2.2) dX3_copyFrom_25 ?_
  refine m_putl C w (k := z) (j := 4) (x := (M_2.2 z2 4)) flX3_22w (by have := hz.1; omega) hz.2.1 hz.2.2.2.2.2.2.2.2 dX3_copyFrom_28 (fun H locs w => ?_)
  obtain ⟨M_3, eM_3⟩ : ∃ zz, zz = mm_wl M_2 z 4 (M_2.2 z2 4) := ⟨_, rfl⟩
  rw [← eM_3] at w
  exact m_vret C w (by subst eM_1 eM_2 eM_3; exact Eq.symm (rfl)) dX3_copyFrom_31

def f_X3_encryptWithAd (z : Nat) (k0 : Nat) (k1 : Nat) (p1 : Nat) (p2 : Nat) (k2 : Nat) (p3 : Nat) (n0 : Nat) (M : mm_M) : Int32 × mm_M :=
  if ¬ (M.1 z 3) = (0 : Int32) then (let M_2 := f_X0_begin (z + 1) (M.2 z 4) M
  let M_3 := f_X0_associate k0 n0 M_2
  let M_4 := f_X0_encrypt k1 p1 p2 k2 p3 M_3
  let M_5 := mm_wl M_4 z 4 ((M_4.2 z 4) + (1))
  ((nI (p2 + 16)), M_5)) else (let M_6 := mm_cp M k1 p1 k2 p3 p2
  ((nI (p2)), M_6))
theorem w_f_X3_encryptWithAd (z : Nat) (k0 : Nat) (k1 : Nat) (p1 : Nat) (p2 : Nat) (k2 : Nat) (p3 : Nat) (n0 : Nat) (M : mm_M) : mm_fr2 [34, 35, 33, 37, 40, 38, 39, 31, k2, 41, z] M (f_X3_encryptWithAd z k0 k1 p1 p2 k2 p3 n0 M) := by
  unfold f_X3_encryptWithAd
  exact (mm_fr_ite2 (fun _ => (mm_fr_wl (by simp) ((w_f_X0_encrypt _ _ _ _ _ _).on (by simp) ((w_f_X0_associate _ _ _).on (by simp) ((w_f_X0_begin _ _ _).on (by simp) (mm_fr_refl _ _))))).b) (fun _ => (mm_fr_cp (by simp) (mm_fr_refl _ _)).b))
set_option maxHeartbeats 4000000 in
set_option maxRecDepth 100000 in
theorem c_X3_encryptWithAd (l : Launch) (D : va_G) (b0 : Nat) (r : Nat → Nat) (M : mm_M) (z : Nat) (k0 : Nat) (k1 : Nat) (p1 : Nat) (p2 : Nat) (k2 : Nat) (p3 : Nat) (n0 : Nat) (hz : mm_cip z) {w0 : Bool} (hk0 : k0 < 181) (hs0 : mm_sh k0 = .inl (.byte, n0, w0)) (hn0 : n0 < 2 ^ 31) (hp0 : n0 < 2 ^ 30) {n1 : Nat} {w1 : Bool} (hk1 : k1 < 181) (hs1 : mm_sh k1 = .inl (.byte, n1, w1)) (hn1 : n1 < 2 ^ 31) (hp1 : p1 + p2 ≤ n1) (hp2 : n1 < 2 ^ 30) {n2 : Nat} (hk2 : k2 < 173) (hs2 : mm_sh k2 = .inl (.byte, n2, true)) (hn2 : n2 < 2 ^ 31) (hp3 : p3 + p2 + 16 ≤ n2) (hp4 : n2 < 2 ^ 30) : mm_Mi l yX3_encryptWithAd cX3_encryptWithAd 7 .int 4 123 D b0 r [.ref (r (z)), .ref (r (k0)), .ref (r (k1)), .int (nI (p1)), .int (nI (p2)), .ref (r (k2)), .int (nI (p3))] M (fun v M' => (v, M') = f_X3_encryptWithAd z k0 k1 p1 p2 k2 p3 n0 M) := by
  refine mm_enter (cc := cX3_encryptWithAd) (nL := 7) (ret := (some .int)) (by decide) (Nat.le_of_ble_eq_true rfl) ?_
  intro p e s m args below meth c C w ls hl
  have hl : lv_has ls 7 [(0, .ref (r (z))), (1, .ref (r (k0))), (2, .ref (r (k1))), (3, .int (nI (p1))), (4, .int (nI (p2))), (5, .ref (r (k2))), (6, .int (nI (p3)))] := hl
  refine lv_aload_n C.1 C.2.1 dX3_encryptWithAd_0 rfl (lv_at hl 0 rfl) ?_
  refine m_get C w (k := z) (j := 3) (v := .int (M.1 z 3)) flX3_18 (by have := hz.1; omega) hz.2.1 (mm_v0 hz.2.2.2.2.2.2.2.1) dX3_encryptWithAd_1 ?_
  refine lv_if_ne (tgt := 21) C.1 C.2.1 dX3_encryptWithAd_4 (by decide) (fun h_1 => ?_) (fun h_1 => ?_)
  · refine lv_aload_n C.1 C.2.1 dX3_encryptWithAd_21 rfl (lv_at hl 0 rfl) ?_
    refine m_get C w (k := z) (j := 2) (v := .ref (r (31))) flX3_26 (by have := hz.1; omega) hz.2.1 (mm_v3 hz.2.2.2.2.2.2.1) dX3_encryptWithAd_22 ?_
    refine lv_aload_n C.1 C.2.1 dX3_encryptWithAd_25 rfl (lv_at hl 0 rfl) ?_
    refine m_get C w (k := z) (j := 0) (v := .ref (r (z + 1))) flX3_9 (by have := hz.1; omega) hz.2.1 (mm_v3 hz.2.2.2.2.1) dX3_encryptWithAd_26 ?_
    refine lv_aload_n C.1 C.2.1 dX3_encryptWithAd_29 rfl (lv_at hl 0 rfl) ?_
    refine m_get C w (k := z) (j := 4) (v := .long (M.2 z 4)) flX3_22 (by have := hz.1; omega) hz.2.1 (mm_v1 hz.2.2.2.2.2.2.2.2) dX3_encryptWithAd_30 ?_
    refine m_cvv C w hl cvX3_36 (k := 31) (by decide) rfl (q := (RX0, TX0, 4)) rfl rfl (As := [.ref (r (z + 1)), .long (M.2 z 4)]) (rest := []) (c_X0_begin l D b0 r M (z + 1) (M.2 z 4) (by have := hz.1; omega) hz.2.2.1 (by decide) (by omega)) rfl rfl (Nat.le_of_ble_eq_true rfl) ⟨Nat.le_of_ble_eq_true rfl, Nat.le_of_ble_eq_true rfl⟩ ⟨Nat.zero_le _, Nat.zero_le _⟩ dX3_encryptWithAd_33 (fun M_2 H locs eM_2 w => ?_)
    refine lv_aload_n C.1 C.2.1 dX3_encryptWithAd_36 rfl (lv_at hl 0 rfl) ?_
    refine m_get C w (k := z) (j := 2) (v := .ref (r (31))) flX3_26 (by have := hz.1; omega) hz.2.1 (mm_v3 hz.2.2.2.2.2.2.1) dX3_encryptWithAd_37 ?_
    refine lv_aload_n C.1 C.2.1 dX3_encryptWithAd_40 rfl (lv_at hl 1 rfl) ?_
    refine lv_aload_n C.1 C.2.1 dX3_encryptWithAd_41 rfl (lv_at hl 1 rfl) ?_
    refine m_alen C w (k := k0) (n := n0) hk0 hs0 dX3_encryptWithAd_42 ?_
    refine m_cvv C w hl cvX3_42 (k := 31) (by decide) rfl (q := (RX0, TX0, 4)) rfl rfl (As := [.ref (r (k0)), .int (nI (n0))]) (rest := []) (c_X0_associate l D b0 r M_2 k0 n0 hk0 hs0 hn0 (by omega) (by omega)) rfl rfl (Nat.le_of_ble_eq_true rfl) ⟨Nat.le_of_ble_eq_true rfl, Nat.le_of_ble_eq_true rfl⟩ ⟨Nat.zero_le _, Nat.zero_le _⟩ dX3_encryptWithAd_43 (fun M_3 H locs eM_3 w => ?_)
    refine lv_aload_n C.1 C.2.1 dX3_encryptWithAd_46 rfl (lv_at hl 0 rfl) ?_
    refine m_get C w (k := z) (j := 2) (v := .ref (r (31))) flX3_26 (by have := hz.1; omega) hz.2.1 (mm_v3 hz.2.2.2.2.2.2.1) dX3_encryptWithAd_47 ?_
    refine lv_aload_n C.1 C.2.1 dX3_encryptWithAd_50 rfl (lv_at hl 2 rfl) ?_
    refine lv_iload_n C.1 C.2.1 dX3_encryptWithAd_51 rfl (lv_at hl 3 rfl) ?_
    refine lv_iload C.1 C.2.1 dX3_encryptWithAd_52 (lv_at hl 4 rfl) ?_
    refine lv_aload C.1 C.2.1 dX3_encryptWithAd_54 (lv_at hl 5 rfl) ?_
    refine lv_iload C.1 C.2.1 dX3_encryptWithAd_56 (lv_at hl 6 rfl) ?_
    refine m_cvv C w hl cvX3_46 (k := 31) (by decide) rfl (q := (RX0, TX0, 4)) rfl rfl (As := [.ref (r (k1)), .int (nI (p1)), .int (nI (p2)), .ref (r (k2)), .int (nI (p3))]) (rest := []) (c_X0_encrypt l D b0 r M_3 k1 p1 p2 k2 p3 hk1 hs1 hn1 (by omega) (by omega) hk2 hs2 hn2 (by omega) (by omega)) rfl rfl (Nat.le_of_ble_eq_true rfl) ⟨Nat.le_of_ble_eq_true rfl, Nat.le_of_ble_eq_true rfl⟩ ⟨Nat.zero_le _, Nat.zero_le _⟩ dX3_encryptWithAd_58 (fun M_4 H locs eM_4 w => ?_)
    refine lv_aload_n C.1 C.2.1 dX3_encryptWithAd_61 rfl (lv_at hl 0 rfl) ?_
    refine lv_dup C.1 C.2.1 dX3_encryptWithAd_62 rfl ?_
    refine m_get C w (k := z) (j := 4) (v := .long (M_4.2 z 4)) flX3_22 (by have := hz.1; omega) hz.2.1 (mm_v1 hz.2.2.2.2.2.2.2.2) dX3_encryptWithAd_63 ?_
    refine lv_lconst (v := 1) C.1 C.2.1 dX3_encryptWithAd_66 (by decide) ?_
    refine lv_ladd C.1 C.2.1 dX3_encryptWithAd_67 ?_
    refine m_putl C w (k := z) (j := 4) (x := ((M_4.2 z 4) + (1))) flX3_22w (by have := hz.1; omega) hz.2.1 hz.2.2.2.2.2.2.2.2 dX3_encryptWithAd_68 (fun H locs w => ?_)
    obtain ⟨M_5, eM_5⟩ : ∃ zz, zz = mm_wl M_4 z 4 ((M_4.2 z 4) + (1)) := ⟨_, rfl⟩
    rw [← eM_5] at w
    refine lv_iload C.1 C.2.1 dX3_encryptWithAd_71 (lv_at hl 4 rfl) ?_
    refine lv_bipush (v := 16) C.1 C.2.1 dX3_encryptWithAd_73 (by decide) ?_
    refine lv_iadd C.1 C.2.1 dX3_encryptWithAd_75 ?_
    refine m_i (y := nI (p2 + 16)) (nI_add p2 16) ?_
    exact m_iret C w (by subst eM_2 eM_3 eM_4 eM_5; exact Eq.symm (((if_pos h_1).trans rfl))) dX3_encryptWithAd_76
  · refine lv_aload_n C.1 C.2.1 dX3_encryptWithAd_7 rfl (lv_at hl 2 rfl) ?_
    refine lv_iload_n C.1 C.2.1 dX3_encryptWithAd_8 rfl (lv_at hl 3 rfl) ?_
    refine lv_aload C.1 C.2.1 dX3_encryptWithAd_9 (lv_at hl 5 rfl) ?_
    refine lv_iload C.1 C.2.1 dX3_encryptWithAd_11 (lv_at hl 6 rfl) ?_
    refine lv_iload C.1 C.2.1 dX3_encryptWithAd_13 (lv_at hl 4 rfl) ?_
    refine m_cpb C w hl (k := k1) (k2 := k2) (sp := p1) (dp := p3) (n := p2) hk1 hs1 hn1 hk2 hs2 hn2 acX3_30 (by omega) (by omega) (Nat.le_of_ble_eq_true rfl) (Nat.le_of_ble_eq_true rfl) dX3_encryptWithAd_15 (fun H locs w => ?_)
    obtain ⟨M_6, eM_6⟩ : ∃ zz, zz = mm_cp M k1 p1 k2 p3 p2 := ⟨_, rfl⟩
    rw [← eM_6] at w
    refine lv_iload C.1 C.2.1 dX3_encryptWithAd_18 (lv_at hl 4 rfl) ?_
    exact m_iret C w (by subst eM_6; exact Eq.symm (((if_neg (fun q => q h_1)).trans rfl))) dX3_encryptWithAd_20

def f_X3_decryptWithAd_B1 (z : Nat) (p2 : Nat) (M_4 : mm_M) (v_5 : Int32) : Int32 × mm_M :=
  if ¬ (v_5) = (0 : Int32) then (let M_7 := mm_wl M_4 z 4 ((M_4.2 z 4) + (1))
  (((nI (p2)) - (16 : Int32)), M_7)) else (((-1 : Int32), M_4))
theorem w_f_X3_decryptWithAd_B1 (z : Nat) (p2 : Nat) (M_4 : mm_M) (v_5 : Int32) : mm_fr2 [z] M_4 (f_X3_decryptWithAd_B1 z p2 M_4 v_5) := by
  unfold f_X3_decryptWithAd_B1
  exact (mm_fr_ite2 (fun _ => (mm_fr_wl (by simp) (mm_fr_refl _ _)).b) (fun _ => (mm_fr_refl _ _).b))
def f_X3_decryptWithAd (z : Nat) (k0 : Nat) (k1 : Nat) (p1 : Nat) (p2 : Nat) (k2 : Nat) (p3 : Nat) (n0 : Nat) (M : mm_M) : Int32 × mm_M :=
  if ¬ (M.1 z 3) = (0 : Int32) then (let M_2 := f_X0_begin (z + 1) (M.2 z 4) M
  let M_3 := f_X0_associate k0 n0 M_2
  let v_5 := (f_X0_decrypt k1 p1 p2 k2 p3 M_3).1
  let M_4 := (f_X0_decrypt k1 p1 p2 k2 p3 M_3).2
  f_X3_decryptWithAd_B1 z p2 M_4 v_5) else (let M_8 := mm_cp M k1 p1 k2 p3 p2
  ((nI (p2)), M_8))
theorem w_f_X3_decryptWithAd (z : Nat) (k0 : Nat) (k1 : Nat) (p1 : Nat) (p2 : Nat) (k2 : Nat) (p3 : Nat) (n0 : Nat) (M : mm_M) : mm_fr2 [34, 35, 33, 37, 40, 38, 39, 31, 41, k2, z] M (f_X3_decryptWithAd z k0 k1 p1 p2 k2 p3 n0 M) := by
  unfold f_X3_decryptWithAd
  exact (mm_fr_ite2 (fun _ => ((w_f_X3_decryptWithAd_B1 _ _ _ _).on (by simp) ((w_f_X0_decrypt _ _ _ _ _ _).m.on (by simp) ((w_f_X0_associate _ _ _).on (by simp) ((w_f_X0_begin _ _ _).on (by simp) (mm_fr_refl _ _)))))) (fun _ => (mm_fr_cp (by simp) (mm_fr_refl _ _)).b))
set_option maxHeartbeats 4000000 in
set_option maxRecDepth 100000 in
theorem c_X3_decryptWithAd (l : Launch) (D : va_G) (b0 : Nat) (r : Nat → Nat) (M : mm_M) (z : Nat) (k0 : Nat) (k1 : Nat) (p1 : Nat) (p2 : Nat) (k2 : Nat) (p3 : Nat) (n0 : Nat) (hz : mm_cip z) {w0 : Bool} (hk0 : k0 < 181) (hs0 : mm_sh k0 = .inl (.byte, n0, w0)) (hn0 : n0 < 2 ^ 31) (hp0 : n0 < 2 ^ 30) {n1 : Nat} {w1 : Bool} (hk1 : k1 < 181) (hs1 : mm_sh k1 = .inl (.byte, n1, w1)) (hn1 : n1 < 2 ^ 31) (hp1 : p1 + p2 ≤ n1) (hp2 : n1 < 2 ^ 30) {n2 : Nat} (hk2 : k2 < 173) (hs2 : mm_sh k2 = .inl (.byte, n2, true)) (hn2 : n2 < 2 ^ 31) (hp3 : (M.1 z 3 = 0 → p3 + p2 ≤ n2) ∧ (¬ M.1 z 3 = 0 → p3 + (p2 - 16) ≤ n2)) (hp4 : n2 < 2 ^ 30) : mm_Mi l yX3_decryptWithAd cX3_decryptWithAd 7 .int 4 126 D b0 r [.ref (r (z)), .ref (r (k0)), .ref (r (k1)), .int (nI (p1)), .int (nI (p2)), .ref (r (k2)), .int (nI (p3))] M (fun v M' => (v, M') = f_X3_decryptWithAd z k0 k1 p1 p2 k2 p3 n0 M) := by
  refine mm_enter (cc := cX3_decryptWithAd) (nL := 7) (ret := (some .int)) (by decide) (Nat.le_of_ble_eq_true rfl) ?_
  intro p e s m args below meth c C w ls hl
  have hl : lv_has ls 7 [(0, .ref (r (z))), (1, .ref (r (k0))), (2, .ref (r (k1))), (3, .int (nI (p1))), (4, .int (nI (p2))), (5, .ref (r (k2))), (6, .int (nI (p3)))] := hl
  refine lv_aload_n C.1 C.2.1 dX3_decryptWithAd_0 rfl (lv_at hl 0 rfl) ?_
  refine m_get C w (k := z) (j := 3) (v := .int (M.1 z 3)) flX3_18 (by have := hz.1; omega) hz.2.1 (mm_v0 hz.2.2.2.2.2.2.2.1) dX3_decryptWithAd_1 ?_
  refine lv_if_ne (tgt := 21) C.1 C.2.1 dX3_decryptWithAd_4 (by decide) (fun h_1 => ?_) (fun h_1 => ?_)
  · have h7 := hp3.2 h_1
    refine lv_aload_n C.1 C.2.1 dX3_decryptWithAd_21 rfl (lv_at hl 0 rfl) ?_
    refine m_get C w (k := z) (j := 2) (v := .ref (r (31))) flX3_26 (by have := hz.1; omega) hz.2.1 (mm_v3 hz.2.2.2.2.2.2.1) dX3_decryptWithAd_22 ?_
    refine lv_aload_n C.1 C.2.1 dX3_decryptWithAd_25 rfl (lv_at hl 0 rfl) ?_
    refine m_get C w (k := z) (j := 0) (v := .ref (r (z + 1))) flX3_9 (by have := hz.1; omega) hz.2.1 (mm_v3 hz.2.2.2.2.1) dX3_decryptWithAd_26 ?_
    refine lv_aload_n C.1 C.2.1 dX3_decryptWithAd_29 rfl (lv_at hl 0 rfl) ?_
    refine m_get C w (k := z) (j := 4) (v := .long (M.2 z 4)) flX3_22 (by have := hz.1; omega) hz.2.1 (mm_v1 hz.2.2.2.2.2.2.2.2) dX3_decryptWithAd_30 ?_
    refine m_cvv C w hl cvX3_36 (k := 31) (by decide) rfl (q := (RX0, TX0, 4)) rfl rfl (As := [.ref (r (z + 1)), .long (M.2 z 4)]) (rest := []) (c_X0_begin l D b0 r M (z + 1) (M.2 z 4) (by have := hz.1; omega) hz.2.2.1 (by decide) (by omega)) rfl rfl (Nat.le_of_ble_eq_true rfl) ⟨Nat.le_of_ble_eq_true rfl, Nat.le_of_ble_eq_true rfl⟩ ⟨Nat.zero_le _, Nat.zero_le _⟩ dX3_decryptWithAd_33 (fun M_2 H locs eM_2 w => ?_)
    refine lv_aload_n C.1 C.2.1 dX3_decryptWithAd_36 rfl (lv_at hl 0 rfl) ?_
    refine m_get C w (k := z) (j := 2) (v := .ref (r (31))) flX3_26 (by have := hz.1; omega) hz.2.1 (mm_v3 hz.2.2.2.2.2.2.1) dX3_decryptWithAd_37 ?_
    refine lv_aload_n C.1 C.2.1 dX3_decryptWithAd_40 rfl (lv_at hl 1 rfl) ?_
    refine lv_aload_n C.1 C.2.1 dX3_decryptWithAd_41 rfl (lv_at hl 1 rfl) ?_
    refine m_alen C w (k := k0) (n := n0) hk0 hs0 dX3_decryptWithAd_42 ?_
    refine m_cvv C w hl cvX3_42 (k := 31) (by decide) rfl (q := (RX0, TX0, 4)) rfl rfl (As := [.ref (r (k0)), .int (nI (n0))]) (rest := []) (c_X0_associate l D b0 r M_2 k0 n0 hk0 hs0 hn0 (by omega) (by omega)) rfl rfl (Nat.le_of_ble_eq_true rfl) ⟨Nat.le_of_ble_eq_true rfl, Nat.le_of_ble_eq_true rfl⟩ ⟨Nat.zero_le _, Nat.zero_le _⟩ dX3_decryptWithAd_43 (fun M_3 H locs eM_3 w => ?_)
    refine lv_aload_n C.1 C.2.1 dX3_decryptWithAd_46 rfl (lv_at hl 0 rfl) ?_
    refine m_get C w (k := z) (j := 2) (v := .ref (r (31))) flX3_26 (by have := hz.1; omega) hz.2.1 (mm_v3 hz.2.2.2.2.2.2.1) dX3_decryptWithAd_47 ?_
    refine lv_aload_n C.1 C.2.1 dX3_decryptWithAd_50 rfl (lv_at hl 2 rfl) ?_
    refine lv_iload_n C.1 C.2.1 dX3_decryptWithAd_51 rfl (lv_at hl 3 rfl) ?_
    refine lv_iload C.1 C.2.1 dX3_decryptWithAd_52 (lv_at hl 4 rfl) ?_
    refine lv_aload C.1 C.2.1 dX3_decryptWithAd_54 (lv_at hl 5 rfl) ?_
    refine lv_iload C.1 C.2.1 dX3_decryptWithAd_56 (lv_at hl 6 rfl) ?_
    refine m_cvi C w hl cvX3_50 (k := 31) (by decide) rfl (q := (RX0, TX0, 4)) rfl rfl (As := [.ref (r (k1)), .int (nI (p1)), .int (nI (p2)), .ref (r (k2)), .int (nI (p3))]) (rest := []) (c_X0_decrypt l D b0 r M_3 k1 p1 p2 k2 p3 hk1 hs1 hn1 (by omega) (by omega) hk2 hs2 hn2 (by omega) (by omega)) rfl rfl (Nat.le_of_ble_eq_true rfl) ⟨Nat.le_of_ble_eq_true rfl, Nat.le_of_ble_eq_true rfl⟩ ⟨Nat.zero_le _, Nat.zero_le _⟩ dX3_decryptWithAd_58 (fun v_5 M_4 H locs e9 w => ?_)
    obtain ⟨ev_5, eM_4⟩ : v_5 = (f_X0_decrypt k1 p1 p2 k2 p3 M_3).1 ∧ M_4 = (f_X0_decrypt k1 p1 p2 k2 p3 M_3).2 := ⟨congrArg Prod.fst e9, congrArg Prod.snd e9⟩
    clear e9
    refine lv_if_ne (tgt := 66) C.1 C.2.1 dX3_decryptWithAd_61 (by decide) (fun h_6 => ?_) (fun h_6 => ?_)
    · refine lv_aload_n C.1 C.2.1 dX3_decryptWithAd_66 rfl (lv_at hl 0 rfl) ?_
      refine lv_dup C.1 C.2.1 dX3_decryptWithAd_67 rfl ?_
      refine m_get C w (k := z) (j := 4) (v := .long (M_4.2 z 4)) flX3_22 (by have := hz.1; omega) hz.2.1 (mm_v1 hz.2.2.2.2.2.2.2.2) dX3_decryptWithAd_68 ?_
      refine lv_lconst (v := 1) C.1 C.2.1 dX3_decryptWithAd_71 (by decide) ?_
      refine lv_ladd C.1 C.2.1 dX3_decryptWithAd_72 ?_
      refine m_putl C w (k := z) (j := 4) (x := ((M_4.2 z 4) + (1))) flX3_22w (by have := hz.1; omega) hz.2.1 hz.2.2.2.2.2.2.2.2 dX3_decryptWithAd_73 (fun H locs w => ?_)
      obtain ⟨M_7, eM_7⟩ : ∃ zz, zz = mm_wl M_4 z 4 ((M_4.2 z 4) + (1)) := ⟨_, rfl⟩
      rw [← eM_7] at w
      refine lv_iload C.1 C.2.1 dX3_decryptWithAd_76 (lv_at hl 4 rfl) ?_
      refine lv_bipush (v := 16) C.1 C.2.1 dX3_decryptWithAd_78 (by decide) ?_
      refine lv_isub C.1 C.2.1 dX3_decryptWithAd_80 ?_
      exact m_iret C w (by subst eM_2 eM_3 ev_5 eM_4 eM_7; exact Eq.symm (((if_pos h_1).trans ((if_pos h_6).trans rfl)))) dX3_decryptWithAd_81
    · refine lv_iconst (v := (-1)) C.1 C.2.1 dX3_decryptWithAd_64 (by decide) ?_
      exact m_iret C w (by subst eM_2 eM_3 ev_5 eM_4; exact Eq.symm (((if_pos h_1).trans ((if_neg (fun q => q h_6)).trans rfl)))) dX3_decryptWithAd_65
  · refine lv_aload_n C.1 C.2.1 dX3_decryptWithAd_7 rfl (lv_at hl 2 rfl) ?_
    refine lv_iload_n C.1 C.2.1 dX3_decryptWithAd_8 rfl (lv_at hl 3 rfl) ?_
    refine lv_aload C.1 C.2.1 dX3_decryptWithAd_9 (lv_at hl 5 rfl) ?_
    refine lv_iload C.1 C.2.1 dX3_decryptWithAd_11 (lv_at hl 6 rfl) ?_
    refine lv_iload C.1 C.2.1 dX3_decryptWithAd_13 (lv_at hl 4 rfl) ?_
    have h7 := hp3.1 h_1
    refine m_cpb C w hl (k := k1) (k2 := k2) (sp := p1) (dp := p3) (n := p2) hk1 hs1 hn1 hk2 hs2 hn2 acX3_30 (by omega) (by omega) (Nat.le_of_ble_eq_true rfl) (Nat.le_of_ble_eq_true rfl) dX3_decryptWithAd_15 (fun H locs w => ?_)
    obtain ⟨M_8, eM_8⟩ : ∃ zz, zz = mm_cp M k1 p1 k2 p3 p2 := ⟨_, rfl⟩
    rw [← eM_8] at w
    refine lv_iload C.1 C.2.1 dX3_decryptWithAd_18 (lv_at hl 4 rfl) ?_
    exact m_iret C w (by subst eM_8; exact Eq.symm (((if_neg (fun q => q h_1)).trans rfl))) dX3_decryptWithAd_20

def f_X3_renewKey (z : Nat) (M : mm_M) : mm_M :=
  let M_1 := f_X0_begin (z + 1) ((-1)) M
  let M_2 := f_X0_associate 178 0 M_1
  let M_3 := f_X0_encrypt 179 0 32 (z + 2) 0 M_2
  let M_4 := mm_cp M_3 (z + 2) 0 (z + 1) 0 32
  M_4
theorem w_f_X3_renewKey (z : Nat) (M : mm_M) : mm_fr [34, 35, 33, 37, 40, 38, 39, 31, (z + 2), 41, z + 1] M (f_X3_renewKey z M) := by
  unfold f_X3_renewKey
  exact (mm_fr_cp (by simp) ((w_f_X0_encrypt _ _ _ _ _ _).on (by simp) ((w_f_X0_associate _ _ _).on (by simp) ((w_f_X0_begin _ _ _).on (by simp) (mm_fr_refl _ _)))))
set_option maxHeartbeats 4000000 in
set_option maxRecDepth 100000 in
theorem c_X3_renewKey (l : Launch) (D : va_G) (b0 : Nat) (r : Nat → Nat) (M : mm_M) (z : Nat) (hz : mm_cip z) : mm_Mv l yX3_renewKey cX3_renewKey 1 4 123 D b0 r [.ref (r (z))] M (fun M' => M' = f_X3_renewKey z M) := by
  refine mm_enter (cc := cX3_renewKey) (nL := 1) (ret := none) (by decide) (Nat.le_of_ble_eq_true rfl) ?_
  intro p e s m args below meth c C w ls hl
  have hl : lv_has ls 1 [(0, .ref (r (z)))] := hl
  refine lv_aload_n C.1 C.2.1 dX3_renewKey_0 rfl (lv_at hl 0 rfl) ?_
  refine m_get C w (k := z) (j := 2) (v := .ref (r (31))) flX3_26 (by have := hz.1; omega) hz.2.1 (mm_v3 hz.2.2.2.2.2.2.1) dX3_renewKey_1 ?_
  refine lv_aload_n C.1 C.2.1 dX3_renewKey_4 rfl (lv_at hl 0 rfl) ?_
  refine m_get C w (k := z) (j := 0) (v := .ref (r (z + 1))) flX3_9 (by have := hz.1; omega) hz.2.1 (mm_v3 hz.2.2.2.2.1) dX3_renewKey_5 ?_
  refine lv_ldc2 (v := (-1)) C.1 C.2.1 C.2.2.2.1 (C.2.2.2.2.1 _ klX3_54) dX3_renewKey_8 ?_
  refine m_cvv C w hl cvX3_36 (k := 31) (by decide) rfl (q := (RX0, TX0, 4)) rfl rfl (As := [.ref (r (z + 1)), .long ((-1))]) (rest := []) (c_X0_begin l D b0 r M (z + 1) ((-1)) (by have := hz.1; omega) hz.2.2.1 (by decide) (by omega)) rfl rfl (Nat.le_of_ble_eq_true rfl) ⟨Nat.le_of_ble_eq_true rfl, Nat.le_of_ble_eq_true rfl⟩ ⟨Nat.zero_le _, Nat.zero_le _⟩ dX3_renewKey_11 (fun M_1 H locs eM_1 w => ?_)
  refine lv_aload_n C.1 C.2.1 dX3_renewKey_14 rfl (lv_at hl 0 rfl) ?_
  refine m_get C w (k := z) (j := 2) (v := .ref (r (31))) flX3_26 (by have := hz.1; omega) hz.2.1 (mm_v3 hz.2.2.2.2.2.2.1) dX3_renewKey_15 ?_
  refine m_gets C w C.2.2.2.2.2.2.2.1.2.2.2.2.2.1 fsX3_56 dX3_renewKey_18 ?_
  refine lv_iconst (v := 0) C.1 C.2.1 dX3_renewKey_21 (by decide) ?_
  refine m_cvv C w hl cvX3_42 (k := 31) (by decide) rfl (q := (RX0, TX0, 4)) rfl rfl (As := [.ref (r (178)), .int 0]) (rest := []) (c_X0_associate l D b0 r M_1 178 0 (by decide) rfl (by decide) (by omega) (by omega)) rfl rfl (Nat.le_of_ble_eq_true rfl) ⟨Nat.le_of_ble_eq_true rfl, Nat.le_of_ble_eq_true rfl⟩ ⟨Nat.zero_le _, Nat.zero_le _⟩ dX3_renewKey_22 (fun M_2 H locs eM_2 w => ?_)
  refine lv_aload_n C.1 C.2.1 dX3_renewKey_25 rfl (lv_at hl 0 rfl) ?_
  refine m_get C w (k := z) (j := 2) (v := .ref (r (31))) flX3_26 (by have := hz.1; omega) hz.2.1 (mm_v3 hz.2.2.2.2.2.2.1) dX3_renewKey_26 ?_
  refine m_gets C w C.2.2.2.2.2.2.2.1.2.2.2.2.2.2.1 fsX3_59 dX3_renewKey_29 ?_
  refine lv_iconst (v := 0) C.1 C.2.1 dX3_renewKey_32 (by decide) ?_
  refine lv_bipush (v := 32) C.1 C.2.1 dX3_renewKey_33 (by decide) ?_
  refine lv_aload_n C.1 C.2.1 dX3_renewKey_35 rfl (lv_at hl 0 rfl) ?_
  refine m_get C w (k := z) (j := 1) (v := .ref (r (z + 2))) flX3_15 (by have := hz.1; omega) hz.2.1 (mm_v3 hz.2.2.2.2.2.1) dX3_renewKey_36 ?_
  refine lv_iconst (v := 0) C.1 C.2.1 dX3_renewKey_39 (by decide) ?_
  refine m_cvv C w hl cvX3_46 (k := 31) (by decide) rfl (q := (RX0, TX0, 4)) rfl rfl (As := [.ref (r (179)), .int 0, .int 32, .ref (r (z + 2)), .int 0]) (rest := []) (c_X0_encrypt l D b0 r M_2 179 0 32 (z + 2) 0 (by decide) rfl (by decide) (by omega) (by omega) (by have := hz.1; omega) hz.2.2.2.1 (by decide) (by omega) (by omega)) rfl rfl (Nat.le_of_ble_eq_true rfl) ⟨Nat.le_of_ble_eq_true rfl, Nat.le_of_ble_eq_true rfl⟩ ⟨Nat.zero_le _, Nat.zero_le _⟩ dX3_renewKey_40 (fun M_3 H locs eM_3 w => ?_)
  refine lv_aload_n C.1 C.2.1 dX3_renewKey_43 rfl (lv_at hl 0 rfl) ?_
  refine m_get C w (k := z) (j := 1) (v := .ref (r (z + 2))) flX3_15 (by have := hz.1; omega) hz.2.1 (mm_v3 hz.2.2.2.2.2.1) dX3_renewKey_44 ?_
  refine lv_iconst (v := 0) C.1 C.2.1 dX3_renewKey_47 (by decide) ?_
  refine lv_aload_n C.1 C.2.1 dX3_renewKey_48 rfl (lv_at hl 0 rfl) ?_
  refine m_get C w (k := z) (j := 0) (v := .ref (r (z + 1))) flX3_9 (by have := hz.1; omega) hz.2.1 (mm_v3 hz.2.2.2.2.1) dX3_renewKey_49 ?_
  refine lv_iconst (v := 0) C.1 C.2.1 dX3_renewKey_52 (by decide) ?_
  refine lv_bipush (v := 32) C.1 C.2.1 dX3_renewKey_53 (by decide) ?_
  refine m_cpb C w hl (k := z + 2) (k2 := z + 1) (sp := 0) (dp := 0) (n := 32) (by have := hz.1; omega) hz.2.2.2.1 (by decide) (by have := hz.1; omega) hz.2.2.1 (by decide) acX3_30 (by omega) (by omega) (Nat.le_of_ble_eq_true rfl) (Nat.le_of_ble_eq_true rfl) dX3_renewKey_55 (fun H locs w => ?_)
  obtain ⟨M_4, eM_4⟩ : ∃ zz, zz = mm_cp M_3 (z + 2) 0 (z + 1) 0 32 := ⟨_, rfl⟩
  rw [← eM_4] at w
  exact m_vret C w (by subst eM_1 eM_2 eM_3 eM_4; exact Eq.symm (rfl)) dX3_renewKey_58
