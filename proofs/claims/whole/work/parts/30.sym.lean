def f_X10_mixHash (y : Nat) (k1 : Nat) (p1 : Nat) (p2 : Nat) (M : mm_M) : mm_M :=
  let M_1 := f_X8_reset M
  let M_2 := f_X8_absorb (y + 1) 0 32 0 M_1
  let M_3 := f_X8_absorb k1 p1 p2 ((0 + 32) % 64) M_2
  let M_4 := f_X8_finish (y + 1) (((0 + 32) % 64 + p2) % 64) M_3
  M_4
theorem w_f_X10_mixHash (y : Nat) (k1 : Nat) (p1 : Nat) (p2 : Nat) (M : mm_M) : mm_fr [24, 23, 26, 25, (y + 1)] M (f_X10_mixHash y k1 p1 p2 M) := by
  unfold f_X10_mixHash
  exact ((w_f_X8_finish _ _ _).on (by simp) ((w_f_X8_absorb _ _ _ _ _).on (by simp) ((w_f_X8_absorb _ _ _ _ _).on (by simp) ((w_f_X8_reset _).on (by simp) (mm_fr_refl _ _)))))
set_option maxHeartbeats 4000000 in
set_option maxRecDepth 100000 in
theorem c_X10_mixHash (l : Launch) (D : va_G) (b0 : Nat) (r : Nat → Nat) (M : mm_M) (y : Nat) (k1 : Nat) (p1 : Nat) (p2 : Nat) (hy : mm_sym y) {n1 : Nat} {w1 : Bool} (hk1 : k1 < 181) (hs1 : mm_sh k1 = .inl (.byte, n1, w1)) (hn1 : n1 < 2 ^ 31) (hp1 : p1 + p2 ≤ n1) (hp2 : n1 < 2 ^ 30) : mm_Mv l yX10_mixHash cX10_mixHash 4 3 79 D b0 r [.ref (r (y)), .ref (r (k1)), .int (nI (p1)), .int (nI (p2))] M (fun M' => M' = f_X10_mixHash y k1 p1 p2 M) := by
  refine mm_enter (cc := cX10_mixHash) (nL := 4) (ret := none) (by decide) (Nat.le_of_ble_eq_true rfl) ?_
  intro p e s m args below meth c C w ls hl
  have hl : lv_has ls 4 [(0, .ref (r (y))), (1, .ref (r (k1))), (2, .int (nI (p1))), (3, .int (nI (p2)))] := hl
  refine lv_aload_n C.1 C.2.1 dX10_mixHash_0 rfl (lv_at hl 0 rfl) ?_
  refine m_get C w (k := y) (j := 3) (v := .ref (r (23))) flX10_37 (by have := hy.1; omega) hy.2.1 (mm_v3 hy.2.2.2.2.2.2.2.2.1) dX10_mixHash_1 ?_
  refine m_cvv C w hl cvX10_76 (k := 23) (by decide) rfl (q := (RX8, TX8, 5)) rfl rfl (As := []) (rest := []) (c_X8_reset l D b0 r M  ) rfl rfl (Nat.le_of_ble_eq_true rfl) ⟨Nat.le_of_ble_eq_true rfl, Nat.le_of_ble_eq_true rfl⟩ ⟨Nat.zero_le _, Nat.zero_le _⟩ dX10_mixHash_4 (fun M_1 H locs eM_1 w => ?_)
  refine lv_aload_n C.1 C.2.1 dX10_mixHash_7 rfl (lv_at hl 0 rfl) ?_
  refine m_get C w (k := y) (j := 3) (v := .ref (r (23))) flX10_37 (by have := hy.1; omega) hy.2.1 (mm_v3 hy.2.2.2.2.2.2.2.2.1) dX10_mixHash_8 ?_
  refine lv_aload_n C.1 C.2.1 dX10_mixHash_11 rfl (lv_at hl 0 rfl) ?_
  refine m_get C w (k := y) (j := 0) (v := .ref (r (y + 1))) flX10_9 (by have := hy.1; omega) hy.2.1 (mm_v3 hy.2.2.2.2.2.1) dX10_mixHash_12 ?_
  refine lv_iconst (v := 0) C.1 C.2.1 dX10_mixHash_15 (by decide) ?_
  refine lv_bipush (v := 32) C.1 C.2.1 dX10_mixHash_16 (by decide) ?_
  refine m_cvv C w hl cvX10_81 (k := 23) (by decide) rfl (q := (RX8, TX8, 5)) rfl rfl (As := [.ref (r (y + 1)), .int 0, .int 32]) (rest := []) (c_X8_absorb l D b0 r M_1 (y + 1) 0 32 0 (by have := hy.1; omega) hy.2.2.1 (by decide) (by omega) (by omega) (by omega) (by rw [eM_1]; exact r_X8_reset _)) rfl rfl (Nat.le_of_ble_eq_true rfl) ⟨Nat.le_of_ble_eq_true rfl, Nat.le_of_ble_eq_true rfl⟩ ⟨Nat.zero_le _, Nat.zero_le _⟩ dX10_mixHash_18 (fun M_2 H locs eM_2 w => ?_)
  refine lv_aload_n C.1 C.2.1 dX10_mixHash_21 rfl (lv_at hl 0 rfl) ?_
  refine m_get C w (k := y) (j := 3) (v := .ref (r (23))) flX10_37 (by have := hy.1; omega) hy.2.1 (mm_v3 hy.2.2.2.2.2.2.2.2.1) dX10_mixHash_22 ?_
  refine lv_aload_n C.1 C.2.1 dX10_mixHash_25 rfl (lv_at hl 1 rfl) ?_
  refine lv_iload_n C.1 C.2.1 dX10_mixHash_26 rfl (lv_at hl 2 rfl) ?_
  refine lv_iload_n C.1 C.2.1 dX10_mixHash_27 rfl (lv_at hl 3 rfl) ?_
  refine m_cvv C w hl cvX10_81 (k := 23) (by decide) rfl (q := (RX8, TX8, 5)) rfl rfl (As := [.ref (r (k1)), .int (nI (p1)), .int (nI (p2))]) (rest := []) (c_X8_absorb l D b0 r M_2 k1 p1 p2 ((0 + 32) % 64) hk1 hs1 hn1 (by omega) (by omega) (by omega) (by rw [eM_2]; exact r_X8_absorb _ _ _ _ (by decide) _ (by rw [eM_1]; exact r_X8_reset _))) rfl rfl (Nat.le_of_ble_eq_true rfl) ⟨Nat.le_of_ble_eq_true rfl, Nat.le_of_ble_eq_true rfl⟩ ⟨Nat.zero_le _, Nat.zero_le _⟩ dX10_mixHash_28 (fun M_3 H locs eM_3 w => ?_)
  refine lv_aload_n C.1 C.2.1 dX10_mixHash_31 rfl (lv_at hl 0 rfl) ?_
  refine m_get C w (k := y) (j := 3) (v := .ref (r (23))) flX10_37 (by have := hy.1; omega) hy.2.1 (mm_v3 hy.2.2.2.2.2.2.2.2.1) dX10_mixHash_32 ?_
  refine lv_aload_n C.1 C.2.1 dX10_mixHash_35 rfl (lv_at hl 0 rfl) ?_
  refine m_get C w (k := y) (j := 0) (v := .ref (r (y + 1))) flX10_9 (by have := hy.1; omega) hy.2.1 (mm_v3 hy.2.2.2.2.2.1) dX10_mixHash_36 ?_
  refine m_cvv C w hl cvX10_85 (k := 23) (by decide) rfl (q := (RX8, TX8, 5)) rfl rfl (As := [.ref (r (y + 1))]) (rest := []) (c_X8_finish l D b0 r M_3 (y + 1) (((0 + 32) % 64 + p2) % 64) (by have := hy.1; omega) hy.2.2.1 (by decide) (by omega) (by omega) (by rw [eM_3]; exact r_X8_absorb _ _ _ _ (by decide) _ (by rw [eM_2]; exact r_X8_absorb _ _ _ _ (by decide) _ (by rw [eM_1]; exact r_X8_reset _)))) rfl rfl (Nat.le_of_ble_eq_true rfl) ⟨Nat.le_of_ble_eq_true rfl, Nat.le_of_ble_eq_true rfl⟩ ⟨Nat.zero_le _, Nat.zero_le _⟩ dX10_mixHash_39 (fun M_4 H locs eM_4 w => ?_)
  exact m_vret C w (by subst eM_1 eM_2 eM_3 eM_4; exact Eq.symm (rfl)) dX10_mixHash_42

def f_X10_mixKey (y : Nat) (k1 : Nat) (M : mm_M) : mm_M :=
  let M_1 := f_X5_hkdf (y + 2) k1 32 (y + 2) (y + 4) M
  let M_2 := f_X3_useNewKey (y + 3) M_1
  M_2
theorem w_f_X10_mixKey (y : Nat) (k1 : Nat) (M : mm_M) : mm_fr [24, 23, 26, 25, 28, 29, 30, (y + 2), (y + 4), (y + 3)] M (f_X10_mixKey y k1 M) := by
  unfold f_X10_mixKey
  exact ((w_f_X3_useNewKey _ _).on (by simp) ((w_f_X5_hkdf _ _ _ _ _ _).on (by simp) (mm_fr_refl _ _)))
set_option maxHeartbeats 4000000 in
set_option maxRecDepth 100000 in
theorem c_X10_mixKey (l : Launch) (D : va_G) (b0 : Nat) (r : Nat → Nat) (M : mm_M) (y : Nat) (k1 : Nat) (hy : mm_sym y) {n1 : Nat} {w1 : Bool} (hk1 : k1 < 181) (hs1 : mm_sh k1 = .inl (.byte, n1, w1)) (hn1 : n1 < 2 ^ 31) (hp1 : 32 ≤ n1) (hp2 : n1 < 2 ^ 30) : mm_Mv l yX10_mixKey cX10_mixKey 2 5 127 D b0 r [.ref (r (y)), .ref (r (k1))] M (fun M' => M' = f_X10_mixKey y k1 M) := by
  refine mm_enter (cc := cX10_mixKey) (nL := 2) (ret := none) (by decide) (Nat.le_of_ble_eq_true rfl) ?_
  intro p e s m args below meth c C w ls hl
  have hl : lv_has ls 2 [(0, .ref (r (y))), (1, .ref (r (k1)))] := hl
  refine lv_aload_n C.1 C.2.1 dX10_mixKey_0 rfl (lv_at hl 0 rfl) ?_
  refine m_get C w (k := y) (j := 4) (v := .ref (r (27))) flX10_42 (by have := hy.1; omega) hy.2.1 (mm_v3 hy.2.2.2.2.2.2.2.2.2) dX10_mixKey_1 ?_
  refine lv_aload_n C.1 C.2.1 dX10_mixKey_4 rfl (lv_at hl 0 rfl) ?_
  refine m_get C w (k := y) (j := 1) (v := .ref (r (y + 2))) flX10_15 (by have := hy.1; omega) hy.2.1 (mm_v3 hy.2.2.2.2.2.2.1) dX10_mixKey_5 ?_
  refine lv_aload_n C.1 C.2.1 dX10_mixKey_8 rfl (lv_at hl 1 rfl) ?_
  refine lv_bipush (v := 32) C.1 C.2.1 dX10_mixKey_9 (by decide) ?_
  refine lv_aload_n C.1 C.2.1 dX10_mixKey_11 rfl (lv_at hl 0 rfl) ?_
  refine m_get C w (k := y) (j := 1) (v := .ref (r (y + 2))) flX10_15 (by have := hy.1; omega) hy.2.1 (mm_v3 hy.2.2.2.2.2.2.1) dX10_mixKey_12 ?_
  refine lv_aload_n C.1 C.2.1 dX10_mixKey_15 rfl (lv_at hl 0 rfl) ?_
  refine m_get C w (k := y) (j := 2) (v := .ref (r (y + 3))) flX10_29 (by have := hy.1; omega) hy.2.1 (mm_v3 hy.2.2.2.2.2.2.2.1) dX10_mixKey_16 ?_
  refine m_get C w (k := y + 3) (j := 0) (v := .ref (r (y + 4))) flX10_64 (by have := hy.2.2.2.2.1.1; omega) hy.2.2.2.2.1.2.1 (mm_v3 hy.2.2.2.2.1.2.2.2.2.1) dX10_mixKey_19 ?_
  refine m_cvv C w hl cvX10_67 (k := 27) (by decide) rfl (q := (RX5, TX5, 4)) rfl rfl (As := [.ref (r (y + 2)), .ref (r (k1)), .int 32, .ref (r (y + 2)), .ref (r (y + 4))]) (rest := []) (c_X5_hkdf l D b0 r M (y + 2) k1 32 (y + 2) (y + 4) (by have := hy.1; omega) hy.2.2.2.1 (by decide) (by omega) hk1 hs1 hn1 (by omega) (by omega) (by have := hy.1; omega) hy.2.2.2.1 (by decide) (by omega) (by omega) (by have := hy.2.2.2.2.1.1; omega) hy.2.2.2.2.1.2.2.1 (by decide) (by omega)) rfl rfl (Nat.le_of_ble_eq_true rfl) ⟨Nat.le_of_ble_eq_true rfl, Nat.le_of_ble_eq_true rfl⟩ ⟨Nat.zero_le _, Nat.zero_le _⟩ dX10_mixKey_22 (fun M_1 H locs eM_1 w => ?_)
  refine lv_aload_n C.1 C.2.1 dX10_mixKey_25 rfl (lv_at hl 0 rfl) ?_
  refine m_get C w (k := y) (j := 2) (v := .ref (r (y + 3))) flX10_29 (by have := hy.1; omega) hy.2.1 (mm_v3 hy.2.2.2.2.2.2.2.1) dX10_mixKey_26 ?_
  refine m_cvv C w hl cvX10_73 (k := y + 3) (by have := hy.2.2.2.2.1.1; omega) hy.2.2.2.2.1.2.1 (q := (RX3, TX3, 5)) rfl rfl (As := []) (rest := []) (c_X3_useNewKey l D b0 r M_1 (y + 3) hy.2.2.2.2.1) rfl rfl (Nat.le_of_ble_eq_true rfl) ⟨Nat.le_of_ble_eq_true rfl, Nat.le_of_ble_eq_true rfl⟩ ⟨Nat.zero_le _, Nat.zero_le _⟩ dX10_mixKey_29 (fun M_2 H locs eM_2 w => ?_)
  exact m_vret C w (by subst eM_1 eM_2; exact Eq.symm (rfl)) dX10_mixKey_32

theorem r_X3_enc (z k0 k1 p1 p2 k2 p3 n0 : Nat) (M : mm_M) : (f_X3_encryptWithAd z k0 k1 p1 p2 k2 p3 n0 M).1 = nI (if M.1 z 3 = 0 then p2 else p2 + 16) := by
  unfold f_X3_encryptWithAd
  by_cases h : M.1 z 3 = 0
  · rw [if_pos h, if_neg (fun q => q h)]
  · rw [if_neg h, if_pos h]

def f_X10_encryptAndHash (y : Nat) (k1 : Nat) (p1 : Nat) (p2 : Nat) (k2 : Nat) (p3 : Nat) (M : mm_M) : Int32 × mm_M :=
  let v_2 := (f_X3_encryptWithAd (y + 3) (y + 1) k1 p1 p2 k2 p3 32 M).1
  let M_1 := (f_X3_encryptWithAd (y + 3) (y + 1) k1 p1 p2 k2 p3 32 M).2
  let u_1 := (if M.1 (y + 3) 3 = 0 then p2 else p2 + 16)
  let M_3 := f_X10_mixHash y k2 p3 u_1 M_1
  ((nI (u_1)), M_3)
theorem w_f_X10_encryptAndHash (y : Nat) (k1 : Nat) (p1 : Nat) (p2 : Nat) (k2 : Nat) (p3 : Nat) (M : mm_M) : mm_fr2 [34, 35, 33, 37, 40, 38, 39, 31, k2, 41, (y + 3), 24, 23, 26, 25, (y + 1)] M (f_X10_encryptAndHash y k1 p1 p2 k2 p3 M) := by
  unfold f_X10_encryptAndHash
  exact ((w_f_X10_mixHash _ _ _ _ _).on (by simp) ((w_f_X3_encryptWithAd _ _ _ _ _ _ _ _ _).m.on (by simp) (mm_fr_refl _ _))).b
set_option maxHeartbeats 4000000 in
set_option maxRecDepth 100000 in
theorem c_X10_encryptAndHash (l : Launch) (D : va_G) (b0 : Nat) (r : Nat → Nat) (M : mm_M) (y : Nat) (k1 : Nat) (p1 : Nat) (p2 : Nat) (k2 : Nat) (p3 : Nat) (hy : mm_sym y) {n1 : Nat} {w1 : Bool} (hk1 : k1 < 181) (hs1 : mm_sh k1 = .inl (.byte, n1, w1)) (hn1 : n1 < 2 ^ 31) (hp1 : p1 + p2 ≤ n1) (hp2 : n1 < 2 ^ 30) {n2 : Nat} (hk2 : k2 < 173) (hs2 : mm_sh k2 = .inl (.byte, n2, true)) (hn2 : n2 < 2 ^ 31) (hp3 : p3 + p2 + 16 ≤ n2) (hp4 : n2 < 2 ^ 30) : mm_Mi l yX10_encryptAndHash cX10_encryptAndHash 7 .int 5 149 D b0 r [.ref (r (y)), .ref (r (k1)), .int (nI (p1)), .int (nI (p2)), .ref (r (k2)), .int (nI (p3))] M (fun v M' => (v, M') = f_X10_encryptAndHash y k1 p1 p2 k2 p3 M) := by
  refine mm_enter (cc := cX10_encryptAndHash) (nL := 7) (ret := (some .int)) (by decide) (Nat.le_of_ble_eq_true rfl) ?_
  intro p e s m args below meth c C w ls hl
  have hl : lv_has ls 7 [(0, .ref (r (y))), (1, .ref (r (k1))), (2, .int (nI (p1))), (3, .int (nI (p2))), (4, .ref (r (k2))), (5, .int (nI (p3)))] := hl
  refine lv_aload_n C.1 C.2.1 dX10_encryptAndHash_0 rfl (lv_at hl 0 rfl) ?_
  refine m_get C w (k := y) (j := 2) (v := .ref (r (y + 3))) flX10_29 (by have := hy.1; omega) hy.2.1 (mm_v3 hy.2.2.2.2.2.2.2.1) dX10_encryptAndHash_1 ?_
  refine lv_aload_n C.1 C.2.1 dX10_encryptAndHash_4 rfl (lv_at hl 0 rfl) ?_
  refine m_get C w (k := y) (j := 0) (v := .ref (r (y + 1))) flX10_9 (by have := hy.1; omega) hy.2.1 (mm_v3 hy.2.2.2.2.2.1) dX10_encryptAndHash_5 ?_
  refine lv_aload_n C.1 C.2.1 dX10_encryptAndHash_8 rfl (lv_at hl 1 rfl) ?_
  refine lv_iload_n C.1 C.2.1 dX10_encryptAndHash_9 rfl (lv_at hl 2 rfl) ?_
  refine lv_iload_n C.1 C.2.1 dX10_encryptAndHash_10 rfl (lv_at hl 3 rfl) ?_
  refine lv_aload C.1 C.2.1 dX10_encryptAndHash_11 (lv_at hl 4 rfl) ?_
  refine lv_iload C.1 C.2.1 dX10_encryptAndHash_13 (lv_at hl 5 rfl) ?_
  refine m_cvi C w hl cvX10_89 (k := y + 3) (by have := hy.2.2.2.2.1.1; omega) hy.2.2.2.2.1.2.1 (q := (RX3, TX3, 5)) rfl rfl (As := [.ref (r (y + 1)), .ref (r (k1)), .int (nI (p1)), .int (nI (p2)), .ref (r (k2)), .int (nI (p3))]) (rest := []) (c_X3_encryptWithAd l D b0 r M (y + 3) (y + 1) k1 p1 p2 k2 p3 32 hy.2.2.2.2.1 (by have := hy.1; omega) hy.2.2.1 (by decide) (by omega) hk1 hs1 hn1 (by omega) (by omega) hk2 hs2 hn2 (by omega) (by omega)) rfl rfl (Nat.le_of_ble_eq_true rfl) ⟨Nat.le_of_ble_eq_true rfl, Nat.le_of_ble_eq_true rfl⟩ ⟨Nat.zero_le _, Nat.zero_le _⟩ dX10_encryptAndHash_15 (fun v_2 M_1 H locs e9 w => ?_)
  obtain ⟨ev_2, eM_1⟩ : v_2 = (f_X3_encryptWithAd (y + 3) (y + 1) k1 p1 p2 k2 p3 32 M).1 ∧ M_1 = (f_X3_encryptWithAd (y + 3) (y + 1) k1 p1 p2 k2 p3 32 M).2 := ⟨congrArg Prod.fst e9, congrArg Prod.snd e9⟩
  clear e9
  obtain ⟨u_1, eu_1⟩ : ∃ zz, zz = (if M.1 (y + 3) 3 = 0 then p2 else p2 + 16) := ⟨_, rfl⟩
  have hu_1 : u_1 ≤ p2 + 16 := by rw [eu_1]; split <;> omega
  refine m_i (y := nI (u_1)) (by rw [ev_2, eu_1]; exact r_X3_enc _ _ _ _ _ _ _ _ _) ?_
  refine lv_istore (lv' := [(6, .int (nI (u_1))), (0, .ref (r (y))), (1, .ref (r (k1))), (2, .int (nI (p1))), (3, .int (nI (p2))), (4, .ref (r (k2))), (5, .int (nI (p3)))]) C.1 C.2.1 dX10_encryptAndHash_18 hl (by decide) rfl (fun ls hl => ?_)
  refine lv_aload_n C.1 C.2.1 dX10_encryptAndHash_20 rfl (lv_at hl 1 rfl) ?_
  refine lv_aload C.1 C.2.1 dX10_encryptAndHash_21 (lv_at hl 5 rfl) ?_
  refine lv_iload C.1 C.2.1 dX10_encryptAndHash_23 (lv_at hl 6 rfl) ?_
  refine lv_iload C.1 C.2.1 dX10_encryptAndHash_25 (lv_at hl 0 rfl) ?_
  refine m_cvv C w hl cvX10_93 (k := y) (by have := hy.1; omega) hy.2.1 (q := (RX10, TX10, 5)) rfl rfl (As := [.ref (r (k2)), .int (nI (p3)), .int (nI (u_1))]) (rest := []) (c_X10_mixHash l D b0 r M_1 y k2 p3 u_1 hy (Nat.lt_trans hk2 (by decide)) hs2 hn2 (by omega) (by omega)) rfl rfl (Nat.le_of_ble_eq_true rfl) ⟨Nat.le_of_ble_eq_true rfl, Nat.le_of_ble_eq_true rfl⟩ ⟨Nat.zero_le _, Nat.zero_le _⟩ dX10_encryptAndHash_27 (fun M_3 H locs eM_3 w => ?_)
  refine lv_iload C.1 C.2.1 dX10_encryptAndHash_30 (lv_at hl 0 rfl) ?_
  exact m_iret C w (by subst ev_2 eM_1 eu_1 eM_3; exact Eq.symm (rfl)) dX10_encryptAndHash_32

def f_X10_decryptAndHash_B1 (y : Nat) (k1 : Nat) (p1 : Nat) (p2 : Nat) (M_1 : mm_M) (v_2 : Int32) : Int32 × mm_M :=
  if (v_2) = (-1 : Int32) then (((v_2), M_1)) else (let M_4 := f_X10_mixHash y k1 p1 p2 M_1
  ((v_2), M_4))
theorem w_f_X10_decryptAndHash_B1 (y : Nat) (k1 : Nat) (p1 : Nat) (p2 : Nat) (M_1 : mm_M) (v_2 : Int32) : mm_fr2 [24, 23, 26, 25, (y + 1)] M_1 (f_X10_decryptAndHash_B1 y k1 p1 p2 M_1 v_2) := by
  unfold f_X10_decryptAndHash_B1
  exact (mm_fr_ite2 (fun _ => (mm_fr_refl _ _).b) (fun _ => ((w_f_X10_mixHash _ _ _ _ _).on (by simp) (mm_fr_refl _ _)).b))
def f_X10_decryptAndHash (y : Nat) (k1 : Nat) (p1 : Nat) (p2 : Nat) (k2 : Nat) (p3 : Nat) (M : mm_M) : Int32 × mm_M :=
  let v_2 := (f_X3_decryptWithAd (y + 3) (y + 1) k1 p1 p2 k2 p3 32 M).1
  let M_1 := (f_X3_decryptWithAd (y + 3) (y + 1) k1 p1 p2 k2 p3 32 M).2
  f_X10_decryptAndHash_B1 y k1 p1 p2 M_1 v_2
theorem w_f_X10_decryptAndHash (y : Nat) (k1 : Nat) (p1 : Nat) (p2 : Nat) (k2 : Nat) (p3 : Nat) (M : mm_M) : mm_fr2 [34, 35, 33, 37, 40, 38, 39, 31, 41, k2, (y + 3), 24, 23, 26, 25, (y + 1)] M (f_X10_decryptAndHash y k1 p1 p2 k2 p3 M) := by
  unfold f_X10_decryptAndHash
  exact ((w_f_X10_decryptAndHash_B1 _ _ _ _ _ _).on (by simp) ((w_f_X3_decryptWithAd _ _ _ _ _ _ _ _ _).m.on (by simp) (mm_fr_refl _ _)))
set_option maxHeartbeats 4000000 in
set_option maxRecDepth 100000 in
theorem c_X10_decryptAndHash (l : Launch) (D : va_G) (b0 : Nat) (r : Nat → Nat) (M : mm_M) (y : Nat) (k1 : Nat) (p1 : Nat) (p2 : Nat) (k2 : Nat) (p3 : Nat) (hy : mm_sym y) {n1 : Nat} {w1 : Bool} (hk1 : k1 < 181) (hs1 : mm_sh k1 = .inl (.byte, n1, w1)) (hn1 : n1 < 2 ^ 31) (hp1 : p1 + p2 ≤ n1) (hp2 : n1 < 2 ^ 30) {n2 : Nat} (hk2 : k2 < 173) (hs2 : mm_sh k2 = .inl (.byte, n2, true)) (hn2 : n2 < 2 ^ 31) (hp3 : (M.1 (y + 3) 3 = 0 → p3 + p2 ≤ n2) ∧ (¬ M.1 (y + 3) 3 = 0 → p3 + (p2 - 16) ≤ n2)) (hp4 : n2 < 2 ^ 30) : mm_Mi l yX10_decryptAndHash cX10_decryptAndHash 7 .int 5 152 D b0 r [.ref (r (y)), .ref (r (k1)), .int (nI (p1)), .int (nI (p2)), .ref (r (k2)), .int (nI (p3))] M (fun v M' => (v, M') = f_X10_decryptAndHash y k1 p1 p2 k2 p3 M) := by
  refine mm_enter (cc := cX10_decryptAndHash) (nL := 7) (ret := (some .int)) (by decide) (Nat.le_of_ble_eq_true rfl) ?_
  intro p e s m args below meth c C w ls hl
  have hl : lv_has ls 7 [(0, .ref (r (y))), (1, .ref (r (k1))), (2, .int (nI (p1))), (3, .int (nI (p2))), (4, .ref (r (k2))), (5, .int (nI (p3)))] := hl
  refine lv_aload_n C.1 C.2.1 dX10_decryptAndHash_0 rfl (lv_at hl 0 rfl) ?_
  refine m_get C w (k := y) (j := 2) (v := .ref (r (y + 3))) flX10_29 (by have := hy.1; omega) hy.2.1 (mm_v3 hy.2.2.2.2.2.2.2.1) dX10_decryptAndHash_1 ?_
  refine lv_aload_n C.1 C.2.1 dX10_decryptAndHash_4 rfl (lv_at hl 0 rfl) ?_
  refine m_get C w (k := y) (j := 0) (v := .ref (r (y + 1))) flX10_9 (by have := hy.1; omega) hy.2.1 (mm_v3 hy.2.2.2.2.2.1) dX10_decryptAndHash_5 ?_
  refine lv_aload_n C.1 C.2.1 dX10_decryptAndHash_8 rfl (lv_at hl 1 rfl) ?_
  refine lv_iload_n C.1 C.2.1 dX10_decryptAndHash_9 rfl (lv_at hl 2 rfl) ?_
  refine lv_iload_n C.1 C.2.1 dX10_decryptAndHash_10 rfl (lv_at hl 3 rfl) ?_
  refine lv_aload C.1 C.2.1 dX10_decryptAndHash_11 (lv_at hl 4 rfl) ?_
  refine lv_iload C.1 C.2.1 dX10_decryptAndHash_13 (lv_at hl 5 rfl) ?_
  refine m_cvi C w hl cvX10_96 (k := y + 3) (by have := hy.2.2.2.2.1.1; omega) hy.2.2.2.2.1.2.1 (q := (RX3, TX3, 5)) rfl rfl (As := [.ref (r (y + 1)), .ref (r (k1)), .int (nI (p1)), .int (nI (p2)), .ref (r (k2)), .int (nI (p3))]) (rest := []) (c_X3_decryptWithAd l D b0 r M (y + 3) (y + 1) k1 p1 p2 k2 p3 32 hy.2.2.2.2.1 (by have := hy.1; omega) hy.2.2.1 (by decide) (by omega) hk1 hs1 hn1 (by omega) (by omega) hk2 hs2 hn2 hp3 (by omega)) rfl rfl (Nat.le_of_ble_eq_true rfl) ⟨Nat.le_of_ble_eq_true rfl, Nat.le_of_ble_eq_true rfl⟩ ⟨Nat.zero_le _, Nat.zero_le _⟩ dX10_decryptAndHash_15 (fun v_2 M_1 H locs e9 w => ?_)
  obtain ⟨ev_2, eM_1⟩ : v_2 = (f_X3_decryptWithAd (y + 3) (y + 1) k1 p1 p2 k2 p3 32 M).1 ∧ M_1 = (f_X3_decryptWithAd (y + 3) (y + 1) k1 p1 p2 k2 p3 32 M).2 := ⟨congrArg Prod.fst e9, congrArg Prod.snd e9⟩
  clear e9
  refine lv_istore (lv' := [(6, .int (v_2)), (0, .ref (r (y))), (1, .ref (r (k1))), (2, .int (nI (p1))), (3, .int (nI (p2))), (4, .ref (r (k2))), (5, .int (nI (p3)))]) C.1 C.2.1 dX10_decryptAndHash_18 hl (by decide) rfl (fun ls hl => ?_)
  refine lv_iload C.1 C.2.1 dX10_decryptAndHash_20 (lv_at hl 0 rfl) ?_
  refine lv_iconst (v := (-1)) C.1 C.2.1 dX10_decryptAndHash_22 (by decide) ?_
  refine lv_icmp_eq (tgt := 33) C.1 C.2.1 dX10_decryptAndHash_23 (by decide) (fun h_3 => ?_) (fun h_3 => ?_)
  · refine lv_iload C.1 C.2.1 dX10_decryptAndHash_33 (lv_at hl 0 rfl) ?_
    exact m_iret C w (by subst ev_2 eM_1; exact Eq.symm (((if_pos h_3).trans rfl))) dX10_decryptAndHash_35
  · refine lv_aload_n C.1 C.2.1 dX10_decryptAndHash_26 rfl (lv_at hl 1 rfl) ?_
    refine lv_aload_n C.1 C.2.1 dX10_decryptAndHash_27 rfl (lv_at hl 2 rfl) ?_
    refine lv_iload_n C.1 C.2.1 dX10_decryptAndHash_28 rfl (lv_at hl 3 rfl) ?_
    refine lv_iload_n C.1 C.2.1 dX10_decryptAndHash_29 rfl (lv_at hl 4 rfl) ?_
    refine m_cvv C w hl cvX10_93 (k := y) (by have := hy.1; omega) hy.2.1 (q := (RX10, TX10, 5)) rfl rfl (As := [.ref (r (k1)), .int (nI (p1)), .int (nI (p2))]) (rest := []) (c_X10_mixHash l D b0 r M_1 y k1 p1 p2 hy hk1 hs1 hn1 (by omega) (by omega)) rfl rfl (Nat.le_of_ble_eq_true rfl) ⟨Nat.le_of_ble_eq_true rfl, Nat.le_of_ble_eq_true rfl⟩ ⟨Nat.zero_le _, Nat.zero_le _⟩ dX10_decryptAndHash_30 (fun M_4 H locs eM_4 w => ?_)
    refine lv_iload C.1 C.2.1 dX10_decryptAndHash_33 (lv_at hl 0 rfl) ?_
    exact m_iret C w (by subst ev_2 eM_1 eM_4; exact Eq.symm (((if_neg h_3).trans rfl))) dX10_decryptAndHash_35

def f_X10_split (y : Nat) (z1 : Nat) (z2 : Nat) (M : mm_M) : mm_M :=
  let M_1 := f_X5_hkdf (y + 2) 178 0 (z1 + 1) (z2 + 1) M
  let M_2 := f_X3_useNewKey z1 M_1
  let M_3 := f_X3_useNewKey z2 M_2
  M_3
theorem w_f_X10_split (y : Nat) (z1 : Nat) (z2 : Nat) (M : mm_M) : mm_fr [24, 23, 26, 25, 28, 29, 30, (z1 + 1), (z2 + 1), z1, z2] M (f_X10_split y z1 z2 M) := by
  unfold f_X10_split
  exact ((w_f_X3_useNewKey _ _).on (by simp) ((w_f_X3_useNewKey _ _).on (by simp) ((w_f_X5_hkdf _ _ _ _ _ _).on (by simp) (mm_fr_refl _ _))))
set_option maxHeartbeats 4000000 in
set_option maxRecDepth 100000 in
theorem c_X10_split (l : Launch) (D : va_G) (b0 : Nat) (r : Nat → Nat) (M : mm_M) (y : Nat) (z1 : Nat) (z2 : Nat) (hy : mm_sym y) (hz1 : mm_cip z1) (hz2 : mm_cip z2) : mm_Mv l yX10_split cX10_split 3 5 127 D b0 r [.ref (r (y)), .ref (r (z1)), .ref (r (z2))] M (fun M' => M' = f_X10_split y z1 z2 M) := by
  refine mm_enter (cc := cX10_split) (nL := 3) (ret := none) (by decide) (Nat.le_of_ble_eq_true rfl) ?_
  intro p e s m args below meth c C w ls hl
  have hl : lv_has ls 3 [(0, .ref (r (y))), (1, .ref (r (z1))), (2, .ref (r (z2)))] := hl
  refine lv_aload_n C.1 C.2.1 dX10_split_0 rfl (lv_at hl 0 rfl) ?_
  refine m_get C w (k := y) (j := 4) (v := .ref (r (27))) flX10_42 (by have := hy.1; omega) hy.2.1 (mm_v3 hy.2.2.2.2.2.2.2.2.2) dX10_split_1 ?_
  refine lv_aload_n C.1 C.2.1 dX10_split_4 rfl (lv_at hl 0 rfl) ?_
  refine m_get C w (k := y) (j := 1) (v := .ref (r (y + 2))) flX10_15 (by have := hy.1; omega) hy.2.1 (mm_v3 hy.2.2.2.2.2.2.1) dX10_split_5 ?_
  refine m_getsN C w C.2.2.2.2.2.2.2.1.2.2.2.2.2.1 C.2.2.2.2.2.2.2.2.2.2.1 dX10_split_8 ?_
  refine lv_iconst (v := 0) C.1 C.2.1 dX10_split_11 (by decide) ?_
  refine lv_aload_n C.1 C.2.1 dX10_split_12 rfl (lv_at hl 1 rfl) ?_
  refine m_get C w (k := z1) (j := 0) (v := .ref (r (z1 + 1))) flX10_64 (by have := hz1.1; omega) hz1.2.1 (mm_v3 hz1.2.2.2.2.1) dX10_split_13 ?_
  refine lv_aload_n C.1 C.2.1 dX10_split_16 rfl (lv_at hl 2 rfl) ?_
  refine m_get C w (k := z2) (j := 0) (v := .ref (r (z2 + 1))) flX10_64 (by have := hz2.1; omega) hz2.2.1 (mm_v3 hz2.2.2.2.2.1) dX10_split_17 ?_
  refine m_cvv C w hl cvX10_67 (k := 27) (by decide) rfl (q := (RX5, TX5, 4)) rfl rfl (As := [.ref (r (y + 2)), .ref (r (178)), .int 0, .ref (r (z1 + 1)), .ref (r (z2 + 1))]) (rest := []) (c_X5_hkdf l D b0 r M (y + 2) 178 0 (z1 + 1) (z2 + 1) (by have := hy.1; omega) hy.2.2.2.1 (by decide) (by omega) (by decide) rfl (by decide) (by omega) (by omega) (by have := hz1.1; omega) hz1.2.2.1 (by decide) (by omega) (by omega) (by have := hz2.1; omega) hz2.2.2.1 (by decide) (by omega)) rfl rfl (Nat.le_of_ble_eq_true rfl) ⟨Nat.le_of_ble_eq_true rfl, Nat.le_of_ble_eq_true rfl⟩ ⟨Nat.zero_le _, Nat.zero_le _⟩ dX10_split_20 (fun M_1 H locs eM_1 w => ?_)
  refine lv_aload_n C.1 C.2.1 dX10_split_23 rfl (lv_at hl 1 rfl) ?_
  refine m_cvv C w hl cvX10_73 (k := z1) (by have := hz1.1; omega) hz1.2.1 (q := (RX3, TX3, 5)) rfl rfl (As := []) (rest := []) (c_X3_useNewKey l D b0 r M_1 z1 hz1) rfl rfl (Nat.le_of_ble_eq_true rfl) ⟨Nat.le_of_ble_eq_true rfl, Nat.le_of_ble_eq_true rfl⟩ ⟨Nat.zero_le _, Nat.zero_le _⟩ dX10_split_24 (fun M_2 H locs eM_2 w => ?_)
  refine lv_aload_n C.1 C.2.1 dX10_split_27 rfl (lv_at hl 2 rfl) ?_
  refine m_cvv C w hl cvX10_73 (k := z2) (by have := hz2.1; omega) hz2.2.1 (q := (RX3, TX3, 5)) rfl rfl (As := []) (rest := []) (c_X3_useNewKey l D b0 r M_2 z2 hz2) rfl rfl (Nat.le_of_ble_eq_true rfl) ⟨Nat.le_of_ble_eq_true rfl, Nat.le_of_ble_eq_true rfl⟩ ⟨Nat.zero_le _, Nat.zero_le _⟩ dX10_split_28 (fun M_3 H locs eM_3 w => ?_)
  exact m_vret C w (by subst eM_1 eM_2 eM_3; exact Eq.symm (rfl)) dX10_split_31

theorem mm_sym.ne1 {y y2 : Nat} (hy : mm_sym y) (hy2 : mm_sym y2) : ¬ y2 + 3 = y + 1 := fun e => by
  have := hy.2.2.1
  rw [← e, hy2.2.2.2.2.1.2.1] at this
  cases this
theorem mm_sym.ne2 {y y2 : Nat} (hy : mm_sym y) (hy2 : mm_sym y2) : ¬ y2 + 3 = y + 2 := fun e => by
  have := hy.2.2.2.1
  rw [← e, hy2.2.2.2.2.1.2.1] at this
  cases this

def f_X10_copyFrom (y : Nat) (y2 : Nat) (M : mm_M) : mm_M :=
  let M_1 := mm_cp M (y2 + 1) 0 (y + 1) 0 32
  let M_2 := mm_cp M_1 (y2 + 2) 0 (y + 2) 0 32
  let M_3 := f_X3_copyFrom (y + 3) (y2 + 3) M_2
  M_3
theorem w_f_X10_copyFrom (y : Nat) (y2 : Nat) (M : mm_M) : mm_fr [y + 1, y + 2, y + 4, (y + 3)] M (f_X10_copyFrom y y2 M) := by
  unfold f_X10_copyFrom
  exact ((w_f_X3_copyFrom _ _ _).on (by simp) (mm_fr_cp (by simp) (mm_fr_cp (by simp) (mm_fr_refl _ _))))
set_option maxHeartbeats 4000000 in
set_option maxRecDepth 100000 in
theorem c_X10_copyFrom (l : Launch) (D : va_G) (b0 : Nat) (r : Nat → Nat) (M : mm_M) (y : Nat) (y2 : Nat) (hy : mm_sym y) (hy2 : mm_sym y2) : mm_Mv l yX10_copyFrom cX10_copyFrom 2 2 69 D b0 r [.ref (r (y)), .ref (r (y2))] M (fun M' => M' = f_X10_copyFrom y y2 M) := by
  refine mm_enter (cc := cX10_copyFrom) (nL := 2) (ret := none) (by decide) (Nat.le_of_ble_eq_true rfl) ?_
  intro p e s m args below meth c C w ls hl
  have hl : lv_has ls 2 [(0, .ref (r (y))), (1, .ref (r (y2)))] := hl
  refine lv_aload_n C.1 C.2.1 dX10_copyFrom_0 rfl (lv_at hl 1 rfl) ?_
  refine m_get C w (k := y2) (j := 0) (v := .ref (r (y2 + 1))) flX10_9 (by have := hy2.1; omega) hy2.2.1 (mm_v3 hy2.2.2.2.2.2.1) dX10_copyFrom_1 ?_
  refine lv_iconst (v := 0) C.1 C.2.1 dX10_copyFrom_4 (by decide) ?_
  refine lv_aload_n C.1 C.2.1 dX10_copyFrom_5 rfl (lv_at hl 0 rfl) ?_
  refine m_get C w (k := y) (j := 0) (v := .ref (r (y + 1))) flX10_9 (by have := hy.1; omega) hy.2.1 (mm_v3 hy.2.2.2.2.2.1) dX10_copyFrom_6 ?_
  refine lv_iconst (v := 0) C.1 C.2.1 dX10_copyFrom_9 (by decide) ?_
  refine lv_bipush (v := 32) C.1 C.2.1 dX10_copyFrom_10 (by decide) ?_
  refine m_cpb C w hl (k := y2 + 1) (k2 := y + 1) (sp := 0) (dp := 0) (n := 32) (by have := hy2.1; omega) hy2.2.2.1 (by decide) (by have := hy.1; omega) hy.2.2.1 (by decide) acX10_54 (by omega) (by omega) (Nat.le_of_ble_eq_true rfl) (Nat.le_of_ble_eq_true rfl) dX10_copyFrom_12 (fun H locs w => ?_)
  obtain ⟨M_1, eM_1⟩ : ∃ zz, zz = mm_cp M (y2 + 1) 0 (y + 1) 0 32 := ⟨_, rfl⟩
  rw [← eM_1] at w
  refine lv_aload_n C.1 C.2.1 dX10_copyFrom_15 rfl (lv_at hl 1 rfl) ?_
  refine m_get C w (k := y2) (j := 1) (v := .ref (r (y2 + 2))) flX10_15 (by have := hy2.1; omega) hy2.2.1 (mm_v3 hy2.2.2.2.2.2.2.1) dX10_copyFrom_16 ?_
  refine lv_iconst (v := 0) C.1 C.2.1 dX10_copyFrom_19 (by decide) ?_
  refine lv_aload_n C.1 C.2.1 dX10_copyFrom_20 rfl (lv_at hl 0 rfl) ?_
  refine m_get C w (k := y) (j := 1) (v := .ref (r (y + 2))) flX10_15 (by have := hy.1; omega) hy.2.1 (mm_v3 hy.2.2.2.2.2.2.1) dX10_copyFrom_21 ?_
  refine lv_iconst (v := 0) C.1 C.2.1 dX10_copyFrom_24 (by decide) ?_
  refine lv_bipush (v := 32) C.1 C.2.1 dX10_copyFrom_25 (by decide) ?_
  refine m_cpb C w hl (k := y2 + 2) (k2 := y + 2) (sp := 0) (dp := 0) (n := 32) (by have := hy2.1; omega) hy2.2.2.2.1 (by decide) (by have := hy.1; omega) hy.2.2.2.1 (by decide) acX10_54 (by omega) (by omega) (Nat.le_of_ble_eq_true rfl) (Nat.le_of_ble_eq_true rfl) dX10_copyFrom_27 (fun H locs w => ?_)
  obtain ⟨M_2, eM_2⟩ : ∃ zz, zz = mm_cp M_1 (y2 + 2) 0 (y + 2) 0 32 := ⟨_, rfl⟩
  rw [← eM_2] at w
  refine lv_aload_n C.1 C.2.1 dX10_copyFrom_30 rfl (lv_at hl 0 rfl) ?_
  refine m_get C w (k := y) (j := 2) (v := .ref (r (y + 3))) flX10_29 (by have := hy.1; omega) hy.2.1 (mm_v3 hy.2.2.2.2.2.2.2.1) dX10_copyFrom_31 ?_
  refine lv_aload_n C.1 C.2.1 dX10_copyFrom_34 rfl (lv_at hl 1 rfl) ?_
  refine m_get C w (k := y2) (j := 2) (v := .ref (r (y2 + 3))) flX10_29 (by have := hy2.1; omega) hy2.2.1 (mm_v3 hy2.2.2.2.2.2.2.2.1) dX10_copyFrom_35 ?_
  refine m_cvv C w hl cvX10_60 (k := y + 3) (by have := hy.2.2.2.2.1.1; omega) hy.2.2.2.2.1.2.1 (q := (RX3, TX3, 5)) rfl rfl (As := [.ref (r (y2 + 3))]) (rest := []) (c_X3_copyFrom l D b0 r M_2 (y + 3) (y2 + 3) hy.2.2.2.2.1 hy2.2.2.2.2.1) rfl rfl (Nat.le_of_ble_eq_true rfl) ⟨Nat.le_of_ble_eq_true rfl, Nat.le_of_ble_eq_true rfl⟩ ⟨Nat.zero_le _, Nat.zero_le _⟩ dX10_copyFrom_38 (fun M_3 H locs eM_3 w => ?_)
  exact m_vret C w (by subst eM_1 eM_2 eM_3; exact Eq.symm (rfl)) dX10_copyFrom_41
