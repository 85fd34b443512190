def f_X12_macs_B1 (t : Nat) (M_13 : mm_M) : mm_M :=
  if 32 ≤ t then (let M_16 := f_X12_put ((0 : Int32) ^^^ (92 : Int32)) t M_13
  M_16) else (let M_17 := f_X12_put ((M_13.1 130 t) ^^^ (92 : Int32)) t M_13
  M_17)
theorem w_f_X12_macs_B1 (t : Nat) (M_13 : mm_M) : mm_fr [128, 117] M_13 (f_X12_macs_B1 t M_13) := by
  unfold f_X12_macs_B1
  exact (mm_fr_ite (fun _ => ((w_f_X12_put _ _ _).on (by simp) (mm_fr_refl _ _))) (fun _ => ((w_f_X12_put _ _ _).on (by simp) (mm_fr_refl _ _))))
def f_X12_macs_L92  (σ : mm_M) : Nat → mm_M
  | 0 => σ
  | t + 1 =>
  let M_13 := f_X12_macs_L92 σ t
  f_X12_macs_B1 t M_13
theorem w_f_X12_macs_L92  (σ : mm_M) : ∀ t : Nat, mm_fr [128, 117] σ (f_X12_macs_L92 σ t)
  | 0 => mm_fr_refl _ _
  | t + 1 => have ih := w_f_X12_macs_L92 σ t
    ((w_f_X12_macs_B1 _ _).on (by simp) ih)
def f_X12_macs_B2 (t : Nat) (M_18 : mm_M) : mm_M :=
  if 32 ≤ t then (let M_21 := f_X12_put ((0 : Int32) ^^^ (54 : Int32)) t M_18
  M_21) else (let M_22 := f_X12_put ((M_18.1 130 t) ^^^ (54 : Int32)) t M_18
  M_22)
theorem w_f_X12_macs_B2 (t : Nat) (M_18 : mm_M) : mm_fr [128, 117] M_18 (f_X12_macs_B2 t M_18) := by
  unfold f_X12_macs_B2
  exact (mm_fr_ite (fun _ => ((w_f_X12_put _ _ _).on (by simp) (mm_fr_refl _ _))) (fun _ => ((w_f_X12_put _ _ _).on (by simp) (mm_fr_refl _ _))))
def f_X12_macs_L19  (σ : mm_M) : Nat → mm_M
  | 0 => σ
  | t + 1 =>
  let M_18 := f_X12_macs_L19 σ t
  f_X12_macs_B2 t M_18
theorem w_f_X12_macs_L19  (σ : mm_M) : ∀ t : Nat, mm_fr [128, 117] σ (f_X12_macs_L19 σ t)
  | 0 => mm_fr_refl _ _
  | t + 1 => have ih := w_f_X12_macs_L19 σ t
    ((w_f_X12_macs_B2 _ _).on (by simp) ih)
def f_X12_macs (k1 : Nat) (p1 : Nat) (k2 : Nat) (p2 : Nat) (p3 : Nat) (M : mm_M) : mm_M :=
  let M_1 := f_X12_copy k1 p1 130 0 32 M
  let M_2 := f_X12_start M_1
  let M_3 := f_X12_macs_L19 M_2 64
  let M_5 := f_X12_putRow k2 p2 p3 64 M_3
  let M_6 := f_X12_sums (64 + p3) M_5
  let M_7 := f_X12_copy 129 0 131 0 32 M_6
  let M_8 := f_X12_start M_7
  let M_9 := f_X12_macs_L92 M_8 64
  let M_11 := f_X12_putRow 131 0 32 64 M_9
  let M_12 := f_X12_sums (64 + 32) M_11
  M_12
theorem w_f_X12_macs (k1 : Nat) (p1 : Nat) (k2 : Nat) (p2 : Nat) (p3 : Nat) (M : mm_M) : mm_fr [130, 117, 128, 129, 126, 127, 125, 131] M (f_X12_macs k1 p1 k2 p2 p3 M) := by
  unfold f_X12_macs
  exact ((w_f_X12_sums _ _).on (by simp) ((w_f_X12_putRow _ _ _ _ _).on (by simp) ((w_f_X12_macs_L92 _ 64).on (by simp) ((w_f_X12_start _).on (by simp) ((w_f_X12_copy _ _ _ _ _ _).on (by simp) ((w_f_X12_sums _ _).on (by simp) ((w_f_X12_putRow _ _ _ _ _).on (by simp) ((w_f_X12_macs_L19 _ 64).on (by simp) ((w_f_X12_start _).on (by simp) ((w_f_X12_copy _ _ _ _ _ _).on (by simp) (mm_fr_refl _ _)))))))))))
theorem i_mac1 (σ : mm_M) (h : σ.1 117 14 = nI 0) : ∀ t, (f_X12_macs_L19 σ t).1 117 14 = nI t
  | 0 => h
  | t + 1 => by
    unfold f_X12_macs_L19
    dsimp only
    unfold f_X12_macs_B2
    split <;> exact r_X12_put _ _ _
theorem i_mac2 (σ : mm_M) (h : σ.1 117 14 = nI 0) : ∀ t, (f_X12_macs_L92 σ t).1 117 14 = nI t
  | 0 => h
  | t + 1 => by
    unfold f_X12_macs_L92
    dsimp only
    unfold f_X12_macs_B1
    split <;> exact r_X12_put _ _ _

set_option maxHeartbeats 4000000 in
set_option maxRecDepth 100000 in
theorem c_X12_macs (l : Launch) (D : va_G) (b0 : Nat) (r : Nat → Nat) (M : mm_M) (k1 : Nat) (p1 : Nat) (k2 : Nat) (p2 : Nat) (p3 : Nat) {n1 : Nat} {w1 : Bool} (hk1 : k1 < 181) (hs1 : mm_sh k1 = .inl (.byte, n1, w1)) (hn1 : n1 < 2 ^ 31) (hp1 : p1 + 32 ≤ n1) (hq1 : n1 < 2 ^ 30) {n2 : Nat} {w2 : Bool} (hk2 : k2 < 181) (hs2 : mm_sh k2 = .inl (.byte, n2, w2)) (hn2 : n2 < 2 ^ 31) (hp2 : p2 + p3 ≤ n2) (hq2 : n2 < 2 ^ 30) (hp3 : p3 ≤ 1100) : mm_Mv l yX12_macs cX12_macs 7 3 68 D b0 r [.ref (r (117)), .ref (r (k1)), .int (nI (p1)), .ref (r (k2)), .int (nI (p2)), .int (nI (p3))] M (fun M' => M' = f_X12_macs k1 p1 k2 p2 p3 M) := by
  refine mm_enter (cc := cX12_macs) (nL := 7) (ret := none) (by decide) (Nat.le_of_ble_eq_true rfl) ?_
  intro p e s m args below meth c C w ls hl
  have hl : lv_has ls 7 [(0, .ref (r (117))), (1, .ref (r (k1))), (2, .int (nI (p1))), (3, .ref (r (k2))), (4, .int (nI (p2))), (5, .int (nI (p3)))] := hl
  refine lv_aload_n C.1 C.2.1 dX12_macs_0 rfl (lv_at hl 1 rfl) ?_
  refine lv_iload_n C.1 C.2.1 dX12_macs_1 rfl (lv_at hl 2 rfl) ?_
  refine lv_aload_n C.1 C.2.1 dX12_macs_2 rfl (lv_at hl 0 rfl) ?_
  refine m_get C w (k := 117) (j := 15) (v := .ref (r (130))) flX12_119 (by decide) rfl rfl dX12_macs_3 ?_
  refine lv_iconst (v := 0) C.1 C.2.1 dX12_macs_6 (by decide) ?_
  refine lv_bipush (v := 32) C.1 C.2.1 dX12_macs_7 (by decide) ?_
  refine m_csv C w hl csX12_265 (As := [.ref (r (k1)), .int (nI (p1)), .ref (r (130)), .int 0, .int 32]) (rest := []) (c_X12_copy l D b0 r M k1 p1 130 0 32 hk1 hs1 hn1 (by omega) (by decide) rfl (by decide) (by omega) (by omega) (by omega)) rfl rfl (Nat.le_of_ble_eq_true rfl) ⟨Nat.le_of_ble_eq_true rfl, Nat.le_of_ble_eq_true rfl⟩ ⟨Nat.zero_le _, Nat.zero_le _⟩ dX12_macs_9 (fun M_1 H locs eM_1 w => ?_)
  refine lv_aload_n C.1 C.2.1 dX12_macs_12 rfl (lv_at hl 0 rfl) ?_
  refine m_cvv C w hl cvX12_269 (k := 117) (by decide) rfl (q := (RX12, TX12, 58)) rfl rfl (As := []) (rest := []) (c_X12_start l D b0 r M_1  ) rfl rfl (Nat.le_of_ble_eq_true rfl) ⟨Nat.le_of_ble_eq_true rfl, Nat.le_of_ble_eq_true rfl⟩ ⟨Nat.zero_le _, Nat.zero_le _⟩ dX12_macs_13 (fun M_2 H locs eM_2 w => ?_)
  skip
  refine lv_iconst (v := 0) C.1 C.2.1 dX12_macs_16 (by decide) ?_
  refine lv_istore (lv' := [(6, .int 0), (0, .ref (r (117))), (1, .ref (r (k1))), (2, .int (nI (p1))), (3, .ref (r (k2))), (4, .int (nI (p2))), (5, .int (nI (p3)))]) C.1 C.2.1 dX12_macs_17 hl (by decide) rfl (fun ls hl => ?_)
  have loop : ∀ (k t : Nat), t + k = 64 → ∀ (H : Heap) (locs : List Loc) (ls : Array Slot), mm_W D b0 r (f_X12_macs_L19 M_2 t) s H locs → lv_has ls 7 [(6, .int (nI (t))), (0, .ref (r (117))), (1, .ref (r (k1))), (2, .int (nI (p1))), (3, .ref (r (k2))), (4, .int (nI (p2))), (5, .int (nI (p3)))] → W p l e (mm_rm 3 68) s m args below meth c H locs 0 0 (MQ below (va_Qv (fun M' => M' = f_X12_macs k1 p1 k2 p2 p3 M) (mm_U D b0 r) (fun q => b0 ≤ q)) args s 0 0 (fun q => b0 ≤ q)) (F0 m 19 ls []) := by
    intro k
    induction k with
    | zero =>
      intro t ht H locs ls w hl
      obtain rfl : 64 = t := by omega
      obtain ⟨M_3, eM_3⟩ : ∃ zz, zz = f_X12_macs_L19 M_2 64 := ⟨_, rfl⟩
      rw [← eM_3] at w
      refine lv_iload C.1 C.2.1 dX12_macs_19 (lv_at hl 0 rfl) ?_
      refine lv_bipush (v := 64) C.1 C.2.1 dX12_macs_21 (by decide) ?_
      refine m_icmp_ge (tgt := 57) (a := 64) (b := 64) C (by omega) (by omega) dX12_macs_23 (by decide) (fun _ => ?_) (fun h_4 => absurd h_4 (by omega))
      skip
      refine lv_aload_n C.1 C.2.1 dX12_macs_57 rfl (lv_at hl 1 rfl) ?_
      refine lv_aload_n C.1 C.2.1 dX12_macs_58 rfl (lv_at hl 4 rfl) ?_
      refine lv_iload C.1 C.2.1 dX12_macs_59 (lv_at hl 5 rfl) ?_
      refine lv_iload C.1 C.2.1 dX12_macs_61 (lv_at hl 6 rfl) ?_
      refine m_cvv C w hl cvX12_272 (k := 117) (by decide) rfl (q := (RX12, TX12, 58)) rfl rfl (As := [.ref (r (k2)), .int (nI (p2)), .int (nI (p3))]) (rest := []) (c_X12_putRow l D b0 r M_3 k2 p2 p3 64 hk2 hs2 hn2 (by omega) (by omega) (by omega) (by rw [eM_3]; exact i_mac1 _ (by rw [eM_2]; exact r_X12_start _) _)) rfl rfl (Nat.le_of_ble_eq_true rfl) ⟨Nat.le_of_ble_eq_true rfl, Nat.le_of_ble_eq_true rfl⟩ ⟨Nat.zero_le _, Nat.zero_le _⟩ dX12_macs_63 (fun M_5 H locs eM_5 w => ?_)
      refine lv_aload_n C.1 C.2.1 dX12_macs_66 rfl (lv_at hl 1 rfl) ?_
      refine m_cvv C w hl cvX12_276 (k := 117) (by decide) rfl (q := (RX12, TX12, 58)) rfl rfl (As := []) (rest := []) (c_X12_sums l D b0 r M_5 (64 + p3) (by omega) (by rw [eM_5]; exact r_X12_putRow _ _ _ _ _ (by rw [eM_3]; exact i_mac1 _ (by rw [eM_2]; exact r_X12_start _) _))) rfl rfl (Nat.le_of_ble_eq_true rfl) ⟨Nat.le_of_ble_eq_true rfl, Nat.le_of_ble_eq_true rfl⟩ ⟨Nat.zero_le _, Nat.zero_le _⟩ dX12_macs_67 (fun M_6 H locs eM_6 w => ?_)
      refine lv_aload_n C.1 C.2.1 dX12_macs_70 rfl (lv_at hl 1 rfl) ?_
      refine m_get C w (k := 117) (j := 13) (v := .ref (r (129))) flX12_116 (by decide) rfl rfl dX12_macs_71 ?_
      refine lv_iconst (v := 0) C.1 C.2.1 dX12_macs_74 (by decide) ?_
      refine lv_aload_n C.1 C.2.1 dX12_macs_75 rfl (lv_at hl 1 rfl) ?_
      refine m_get C w (k := 117) (j := 16) (v := .ref (r (131))) flX12_122 (by decide) rfl rfl dX12_macs_76 ?_
      refine lv_iconst (v := 0) C.1 C.2.1 dX12_macs_79 (by decide) ?_
      refine lv_bipush (v := 32) C.1 C.2.1 dX12_macs_80 (by decide) ?_
      refine m_csv C w hl csX12_265 (As := [.ref (r (129)), .int 0, .ref (r (131)), .int 0, .int 32]) (rest := []) (c_X12_copy l D b0 r M_6 129 0 131 0 32 (by decide) rfl (by decide) (by omega) (by decide) rfl (by decide) (by omega) (by omega) (by omega)) rfl rfl (Nat.le_of_ble_eq_true rfl) ⟨Nat.le_of_ble_eq_true rfl, Nat.le_of_ble_eq_true rfl⟩ ⟨Nat.zero_le _, Nat.zero_le _⟩ dX12_macs_82 (fun M_7 H locs eM_7 w => ?_)
      refine lv_aload_n C.1 C.2.1 dX12_macs_85 rfl (lv_at hl 1 rfl) ?_
      refine m_cvv C w hl cvX12_269 (k := 117) (by decide) rfl (q := (RX12, TX12, 58)) rfl rfl (As := []) (rest := []) (c_X12_start l D b0 r M_7  ) rfl rfl (Nat.le_of_ble_eq_true rfl) ⟨Nat.le_of_ble_eq_true rfl, Nat.le_of_ble_eq_true rfl⟩ ⟨Nat.zero_le _, Nat.zero_le _⟩ dX12_macs_86 (fun M_8 H locs eM_8 w => ?_)
      skip
      refine lv_iconst (v := 0) C.1 C.2.1 dX12_macs_89 (by decide) ?_
      refine lv_istore (lv' := [(6, .int 0), (0, .ref (r (117))), (1, .ref (r (k1))), (2, .int (nI (p1))), (3, .ref (r (k2))), (4, .int (nI (p2))), (5, .int (nI (p3)))]) C.1 C.2.1 dX12_macs_90 hl (by decide) rfl (fun ls hl => ?_)
      have loop : ∀ (k t : Nat), t + k = 64 → ∀ (H : Heap) (locs : List Loc) (ls : Array Slot), mm_W D b0 r (f_X12_macs_L92 M_8 t) s H locs → lv_has ls 7 [(6, .int (nI (t))), (0, .ref (r (117))), (1, .ref (r (k1))), (2, .int (nI (p1))), (3, .ref (r (k2))), (4, .int (nI (p2))), (5, .int (nI (p3)))] → W p l e (mm_rm 3 68) s m args below meth c H locs 0 0 (MQ below (va_Qv (fun M' => M' = f_X12_macs k1 p1 k2 p2 p3 M) (mm_U D b0 r) (fun q => b0 ≤ q)) args s 0 0 (fun q => b0 ≤ q)) (F0 m 92 ls []) := by
        intro k
        induction k with
        | zero =>
          intro t ht H locs ls w hl
          obtain rfl : 64 = t := by omega
          obtain ⟨M_9, eM_9⟩ : ∃ zz, zz = f_X12_macs_L92 M_8 64 := ⟨_, rfl⟩
          rw [← eM_9] at w
          refine lv_iload C.1 C.2.1 dX12_macs_92 (lv_at hl 0 rfl) ?_
          refine lv_bipush (v := 64) C.1 C.2.1 dX12_macs_94 (by decide) ?_
          refine m_icmp_ge (tgt := 130) (a := 64) (b := 64) C (by omega) (by omega) dX12_macs_96 (by decide) (fun _ => ?_) (fun h_10 => absurd h_10 (by omega))
          skip
          refine lv_aload_n C.1 C.2.1 dX12_macs_130 rfl (lv_at hl 1 rfl) ?_
          refine lv_aload_n C.1 C.2.1 dX12_macs_131 rfl (lv_at hl 1 rfl) ?_
          refine m_get C w (k := 117) (j := 16) (v := .ref (r (131))) flX12_122 (by decide) rfl rfl dX12_macs_132 ?_
          refine lv_iconst (v := 0) C.1 C.2.1 dX12_macs_135 (by decide) ?_
          refine lv_bipush (v := 32) C.1 C.2.1 dX12_macs_136 (by decide) ?_
          refine m_cvv C w hl cvX12_272 (k := 117) (by decide) rfl (q := (RX12, TX12, 58)) rfl rfl (As := [.ref (r (131)), .int 0, .int 32]) (rest := []) (c_X12_putRow l D b0 r M_9 131 0 32 64 (by decide) rfl (by decide) (by omega) (by omega) (by omega) (by rw [eM_9]; exact i_mac2 _ (by rw [eM_8]; exact r_X12_start _) _)) rfl rfl (Nat.le_of_ble_eq_true rfl) ⟨Nat.le_of_ble_eq_true rfl, Nat.le_of_ble_eq_true rfl⟩ ⟨Nat.zero_le _, Nat.zero_le _⟩ dX12_macs_138 (fun M_11 H locs eM_11 w => ?_)
          refine lv_aload_n C.1 C.2.1 dX12_macs_141 rfl (lv_at hl 1 rfl) ?_
          refine m_cvv C w hl cvX12_276 (k := 117) (by decide) rfl (q := (RX12, TX12, 58)) rfl rfl (As := []) (rest := []) (c_X12_sums l D b0 r M_11 (64 + 32) (by omega) (by rw [eM_11]; exact r_X12_putRow _ _ _ _ _ (by rw [eM_9]; exact i_mac2 _ (by rw [eM_8]; exact r_X12_start _) _))) rfl rfl (Nat.le_of_ble_eq_true rfl) ⟨Nat.le_of_ble_eq_true rfl, Nat.le_of_ble_eq_true rfl⟩ ⟨Nat.zero_le _, Nat.zero_le _⟩ dX12_macs_142 (fun M_12 H locs eM_12 w => ?_)
          exact m_vret C w (by subst eM_1 eM_2 eM_3 eM_5 eM_6 eM_7 eM_8 eM_9 eM_11 eM_12; exact Eq.symm (rfl)) dX12_macs_145
        | succ k ih =>
          intro t ht H locs ls w hl
          obtain ⟨M_13, eM_13⟩ : ∃ zz, zz = f_X12_macs_L92 M_8 t := ⟨_, rfl⟩
          rw [← eM_13] at w
          refine lv_iload C.1 C.2.1 dX12_macs_92 (lv_at hl 0 rfl) ?_
          refine lv_bipush (v := 64) C.1 C.2.1 dX12_macs_94 (by decide) ?_
          refine m_icmp_ge (tgt := 130) (a := t) (b := 64) C (by omega) (by omega) dX12_macs_96 (by decide) (fun h_14 => absurd h_14 (by omega)) (fun _ => ?_)
          refine lv_aload_n C.1 C.2.1 dX12_macs_99 rfl (lv_at hl 1 rfl) ?_
          refine lv_iload C.1 C.2.1 dX12_macs_100 (lv_at hl 0 rfl) ?_
          refine lv_bipush (v := 32) C.1 C.2.1 dX12_macs_102 (by decide) ?_
          refine m_icmp_ge (tgt := 117) (a := t) (b := 32) C (by omega) (by omega) dX12_macs_104 (by decide) (fun h_15 => ?_) (fun h_15 => ?_)
          · refine lv_iconst (v := 0) C.1 C.2.1 dX12_macs_117 (by decide) ?_
            refine lv_bipush (v := 92) C.1 C.2.1 dX12_macs_118 (by decide) ?_
            refine lv_ixor C.1 C.2.1 dX12_macs_120 ?_
            refine m_cvv C w hl cvX12_254 (k := 117) (by decide) rfl (q := (RX12, TX12, 58)) rfl rfl (As := [.int ((0 : Int32) ^^^ (92 : Int32))]) (rest := []) (c_X12_put l D b0 r M_13 ((0 : Int32) ^^^ (92 : Int32)) t (by omega) (by rw [eM_13]; exact i_mac2 _ (by rw [eM_8]; exact r_X12_start _) _)) rfl rfl (Nat.le_of_ble_eq_true rfl) ⟨Nat.le_of_ble_eq_true rfl, Nat.le_of_ble_eq_true rfl⟩ ⟨Nat.zero_le _, Nat.zero_le _⟩ dX12_macs_121 (fun M_16 H locs eM_16 w => ?_)
            refine lv_iinc (v := (nI (t + 1))) (lv' := [(6, .int (nI (t + 1))), (0, .ref (r (117))), (1, .ref (r (k1))), (2, .int (nI (p1))), (3, .ref (r (k2))), (4, .int (nI (p2))), (5, .int (nI (p3)))]) C.1 C.2.1 dX12_macs_124 hl (k := 0) rfl (nI_add t 1) (by decide) rfl (fun ls hl => ?_)
            refine lv_goto (tgt := 92) C.1 C.2.1 dX12_macs_127 (by decide) ?_
            have h9 : lv_has ls 7 [(6, .int (nI (t + 1))), (0, .ref (r (117))), (1, .ref (r (k1))), (2, .int (nI (p1))), (3, .ref (r (k2))), (4, .int (nI (p2))), (5, .int (nI (p3)))] := lv_sub hl [0, 1, 2, 3, 4, 5, 6] rfl
            have hlZ : lv_has ls 7 [(6, .int (nI (t + 1))), (0, .ref (r (117))), (1, .ref (r (k1))), (2, .int (nI (p1))), (3, .ref (r (k2))), (4, .int (nI (p2))), (5, .int (nI (p3)))] := h9
            have wZ := w
            subst eM_13 eM_16
            refine ih (t + 1) (by omega) _ _ _ (m_w (Eq.symm (congrArg (fun z => z) (show f_X12_macs_L92 M_8 (t + 1) = _ from ((if_pos h_15).trans rfl)))) wZ) ?_
            exact hlZ
          · refine lv_aload_n C.1 C.2.1 dX12_macs_107 rfl (lv_at hl 1 rfl) ?_
            refine m_get C w (k := 117) (j := 15) (v := .ref (r (130))) flX12_119 (by decide) rfl rfl dX12_macs_108 ?_
            refine lv_iload C.1 C.2.1 dX12_macs_111 (lv_at hl 0 rfl) ?_
            refine m_bald C w (k := 130) (i := t) (n := 32) (wr := true) (by decide) rfl (by omega) (by decide) dX12_macs_113 ?_
            refine lv_goto (tgt := 118) C.1 C.2.1 dX12_macs_114 (by decide) ?_
            refine lv_bipush (v := 92) C.1 C.2.1 dX12_macs_118 (by decide) ?_
            refine lv_ixor C.1 C.2.1 dX12_macs_120 ?_
            refine m_cvv C w hl cvX12_254 (k := 117) (by decide) rfl (q := (RX12, TX12, 58)) rfl rfl (As := [.int ((M_13.1 130 t) ^^^ (92 : Int32))]) (rest := []) (c_X12_put l D b0 r M_13 ((M_13.1 130 t) ^^^ (92 : Int32)) t (by omega) (by rw [eM_13]; exact i_mac2 _ (by rw [eM_8]; exact r_X12_start _) _)) rfl rfl (Nat.le_of_ble_eq_true rfl) ⟨Nat.le_of_ble_eq_true rfl, Nat.le_of_ble_eq_true rfl⟩ ⟨Nat.zero_le _, Nat.zero_le _⟩ dX12_macs_121 (fun M_17 H locs eM_17 w => ?_)
            refine lv_iinc (v := (nI (t + 1))) (lv' := [(6, .int (nI (t + 1))), (0, .ref (r (117))), (1, .ref (r (k1))), (2, .int (nI (p1))), (3, .ref (r (k2))), (4, .int (nI (p2))), (5, .int (nI (p3)))]) C.1 C.2.1 dX12_macs_124 hl (k := 0) rfl (nI_add t 1) (by decide) rfl (fun ls hl => ?_)
            refine lv_goto (tgt := 92) C.1 C.2.1 dX12_macs_127 (by decide) ?_
            have h9 : lv_has ls 7 [(6, .int (nI (t + 1))), (0, .ref (r (117))), (1, .ref (r (k1))), (2, .int (nI (p1))), (3, .ref (r (k2))), (4, .int (nI (p2))), (5, .int (nI (p3)))] := lv_sub hl [0, 1, 2, 3, 4, 5, 6] rfl
            have hlZ : lv_has ls 7 [(6, .int (nI (t + 1))), (0, .ref (r (117))), (1, .ref (r (k1))), (2, .int (nI (p1))), (3, .ref (r (k2))), (4, .int (nI (p2))), (5, .int (nI (p3)))] := h9
            have wZ := w
            subst eM_13 eM_17
            refine ih (t + 1) (by omega) _ _ _ (m_w (Eq.symm (congrArg (fun z => z) (show f_X12_macs_L92 M_8 (t + 1) = _ from ((if_neg (Nat.not_le.mpr h_15)).trans rfl)))) wZ) ?_
            exact hlZ
      exact loop 64 0 (by omega) _ _ ls w hl
    | succ k ih =>
      intro t ht H locs ls w hl
      obtain ⟨M_18, eM_18⟩ : ∃ zz, zz = f_X12_macs_L19 M_2 t := ⟨_, rfl⟩
      rw [← eM_18] at w
      refine lv_iload C.1 C.2.1 dX12_macs_19 (lv_at hl 0 rfl) ?_
      refine lv_bipush (v := 64) C.1 C.2.1 dX12_macs_21 (by decide) ?_
      refine m_icmp_ge (tgt := 57) (a := t) (b := 64) C (by omega) (by omega) dX12_macs_23 (by decide) (fun h_19 => absurd h_19 (by omega)) (fun _ => ?_)
      refine lv_aload_n C.1 C.2.1 dX12_macs_26 rfl (lv_at hl 1 rfl) ?_
      refine lv_iload C.1 C.2.1 dX12_macs_27 (lv_at hl 0 rfl) ?_
      refine lv_bipush (v := 32) C.1 C.2.1 dX12_macs_29 (by decide) ?_
      refine m_icmp_ge (tgt := 44) (a := t) (b := 32) C (by omega) (by omega) dX12_macs_31 (by decide) (fun h_20 => ?_) (fun h_20 => ?_)
      · refine lv_iconst (v := 0) C.1 C.2.1 dX12_macs_44 (by decide) ?_
        refine lv_bipush (v := 54) C.1 C.2.1 dX12_macs_45 (by decide) ?_
        refine lv_ixor C.1 C.2.1 dX12_macs_47 ?_
        refine m_cvv C w hl cvX12_254 (k := 117) (by decide) rfl (q := (RX12, TX12, 58)) rfl rfl (As := [.int ((0 : Int32) ^^^ (54 : Int32))]) (rest := []) (c_X12_put l D b0 r M_18 ((0 : Int32) ^^^ (54 : Int32)) t (by omega) (by rw [eM_18]; exact i_mac1 _ (by rw [eM_2]; exact r_X12_start _) _)) rfl rfl (Nat.le_of_ble_eq_true rfl) ⟨Nat.le_of_ble_eq_true rfl, Nat.le_of_ble_eq_true rfl⟩ ⟨Nat.zero_le _, Nat.zero_le _⟩ dX12_macs_48 (fun M_21 H locs eM_21 w => ?_)
        refine lv_iinc (v := (nI (t + 1))) (lv' := [(6, .int (nI (t + 1))), (0, .ref (r (117))), (1, .ref (r (k1))), (2, .int (nI (p1))), (3, .ref (r (k2))), (4, .int (nI (p2))), (5, .int (nI (p3)))]) C.1 C.2.1 dX12_macs_51 hl (k := 0) rfl (nI_add t 1) (by decide) rfl (fun ls hl => ?_)
        refine lv_goto (tgt := 19) C.1 C.2.1 dX12_macs_54 (by decide) ?_
        have h9 : lv_has ls 7 [(6, .int (nI (t + 1))), (0, .ref (r (117))), (1, .ref (r (k1))), (2, .int (nI (p1))), (3, .ref (r (k2))), (4, .int (nI (p2))), (5, .int (nI (p3)))] := lv_sub hl [0, 1, 2, 3, 4, 5, 6] rfl
        have hlZ : lv_has ls 7 [(6, .int (nI (t + 1))), (0, .ref (r (117))), (1, .ref (r (k1))), (2, .int (nI (p1))), (3, .ref (r (k2))), (4, .int (nI (p2))), (5, .int (nI (p3)))] := h9
        have wZ := w
        subst eM_18 eM_21
        refine ih (t + 1) (by omega) _ _ _ (m_w (Eq.symm (congrArg (fun z => z) (show f_X12_macs_L19 M_2 (t + 1) = _ from ((if_pos h_20).trans rfl)))) wZ) ?_
        exact hlZ
      · refine lv_aload_n C.1 C.2.1 dX12_macs_34 rfl (lv_at hl 1 rfl) ?_
        refine m_get C w (k := 117) (j := 15) (v := .ref (r (130))) flX12_119 (by decide) rfl rfl dX12_macs_35 ?_
        refine lv_iload C.1 C.2.1 dX12_macs_38 (lv_at hl 0 rfl) ?_
        refine m_bald C w (k := 130) (i := t) (n := 32) (wr := true) (by decide) rfl (by omega) (by decide) dX12_macs_40 ?_
        refine lv_goto (tgt := 45) C.1 C.2.1 dX12_macs_41 (by decide) ?_
        refine lv_bipush (v := 54) C.1 C.2.1 dX12_macs_45 (by decide) ?_
        refine lv_ixor C.1 C.2.1 dX12_macs_47 ?_
        refine m_cvv C w hl cvX12_254 (k := 117) (by decide) rfl (q := (RX12, TX12, 58)) rfl rfl (As := [.int ((M_18.1 130 t) ^^^ (54 : Int32))]) (rest := []) (c_X12_put l D b0 r M_18 ((M_18.1 130 t) ^^^ (54 : Int32)) t (by omega) (by rw [eM_18]; exact i_mac1 _ (by rw [eM_2]; exact r_X12_start _) _)) rfl rfl (Nat.le_of_ble_eq_true rfl) ⟨Nat.le_of_ble_eq_true rfl, Nat.le_of_ble_eq_true rfl⟩ ⟨Nat.zero_le _, Nat.zero_le _⟩ dX12_macs_48 (fun M_22 H locs eM_22 w => ?_)
        refine lv_iinc (v := (nI (t + 1))) (lv' := [(6, .int (nI (t + 1))), (0, .ref (r (117))), (1, .ref (r (k1))), (2, .int (nI (p1))), (3, .ref (r (k2))), (4, .int (nI (p2))), (5, .int (nI (p3)))]) C.1 C.2.1 dX12_macs_51 hl (k := 0) rfl (nI_add t 1) (by decide) rfl (fun ls hl => ?_)
        refine lv_goto (tgt := 19) C.1 C.2.1 dX12_macs_54 (by decide) ?_
        have h9 : lv_has ls 7 [(6, .int (nI (t + 1))), (0, .ref (r (117))), (1, .ref (r (k1))), (2, .int (nI (p1))), (3, .ref (r (k2))), (4, .int (nI (p2))), (5, .int (nI (p3)))] := lv_sub hl [0, 1, 2, 3, 4, 5, 6] rfl
        have hlZ : lv_has ls 7 [(6, .int (nI (t + 1))), (0, .ref (r (117))), (1, .ref (r (k1))), (2, .int (nI (p1))), (3, .ref (r (k2))), (4, .int (nI (p2))), (5, .int (nI (p3)))] := h9
        have wZ := w
        subst eM_18 eM_22
        refine ih (t + 1) (by omega) _ _ _ (m_w (Eq.symm (congrArg (fun z => z) (show f_X12_macs_L19 M_2 (t + 1) = _ from ((if_neg (Nat.not_le.mpr h_20)).trans rfl)))) wZ) ?_
        exact hlZ
  exact loop 64 0 (by omega) _ _ ls w hl

def f_X12_curved_L206  (σ : mm_M) : Nat → mm_M
  | 0 => σ
  | t + 1 =>
  let M_17 := f_X12_curved_L206 σ t
  let x6_19 := ((M_17.1 144 ((254 - t) / 8)) >>> ((nI ((254 - t) % 8)) &&& 31)) &&& (1 : Int32)
  let M_20 := f_X12_swapped 133 134 (x6_19) M_17
  let M_21 := f_X12_swapped 135 136 (x6_19) M_20
  let M_22 := f_X12_added 137 133 135 M_21
  let M_23 := f_X12_less 133 133 135 M_22
  let M_24 := f_X12_added 135 134 136 M_23
  let M_25 := f_X12_less 134 134 136 M_24
  let M_26 := f_X12_times 136 137 137 M_25
  let M_27 := f_X12_times 138 133 133 M_26
  let M_28 := f_X12_times 133 135 133 M_27
  let M_29 := f_X12_times 135 134 137 M_28
  let M_30 := f_X12_added 137 133 135 M_29
  let M_31 := f_X12_less 133 133 135 M_30
  let M_32 := f_X12_times 134 133 133 M_31
  let M_33 := f_X12_less 135 136 138 M_32
  let M_34 := f_X12_times 133 135 140 M_33
  let M_35 := f_X12_added 133 133 136 M_34
  let M_36 := f_X12_times 135 135 133 M_35
  let M_37 := f_X12_times 133 136 138 M_36
  let M_38 := f_X12_times 136 134 132 M_37
  let M_39 := f_X12_times 134 137 137 M_38
  let M_40 := f_X12_swapped 133 134 (x6_19) M_39
  let M_41 := f_X12_swapped 135 136 (x6_19) M_40
  M_41
theorem w_f_X12_curved_L206  (σ : mm_M) : ∀ t : Nat, mm_fr [133, 134, 135, 136, 137, 143, 138] σ (f_X12_curved_L206 σ t)
  | 0 => mm_fr_refl _ _
  | t + 1 => have ih := w_f_X12_curved_L206 σ t
    ((w_f_X12_swapped _ _ _ _).on (by simp) ((w_f_X12_swapped _ _ _ _).on (by simp) ((w_f_X12_times _ _ _ _).on (by simp) ((w_f_X12_times _ _ _ _).on (by simp) ((w_f_X12_times _ _ _ _).on (by simp) ((w_f_X12_times _ _ _ _).on (by simp) ((w_f_X12_added _ _ _ _).on (by simp) ((w_f_X12_times _ _ _ _).on (by simp) ((w_f_X12_less _ _ _ _).on (by simp) ((w_f_X12_times _ _ _ _).on (by simp) ((w_f_X12_less _ _ _ _).on (by simp) ((w_f_X12_added _ _ _ _).on (by simp) ((w_f_X12_times _ _ _ _).on (by simp) ((w_f_X12_times _ _ _ _).on (by simp) ((w_f_X12_times _ _ _ _).on (by simp) ((w_f_X12_times _ _ _ _).on (by simp) ((w_f_X12_less _ _ _ _).on (by simp) ((w_f_X12_added _ _ _ _).on (by simp) ((w_f_X12_less _ _ _ _).on (by simp) ((w_f_X12_added _ _ _ _).on (by simp) ((w_f_X12_swapped _ _ _ _).on (by simp) ((w_f_X12_swapped _ _ _ _).on (by simp) ih))))))))))))))))))))))
def f_X12_curved_L53 (k2 : Nat) (p2 : Nat) (σ : mm_M) : Nat → mm_M
  | 0 => σ
  | t + 1 =>
  let M_42 := f_X12_curved_L53 k2 p2 σ t
  let M_44 := mm_wl M_42 132 t (((((M_42.1 k2 (p2 + (2 * t))) : Int32).toInt64) &&& (255)) + (((((M_42.1 k2 (p2 + (2 * t) + 1)) : Int32).toInt64) &&& (255)) <<< (((8 : Int32)).toInt64 &&& 63)))
  let M_45 := mm_wl M_44 134 t (0)
  let M_46 := mm_wl M_45 133 t (0)
  let M_47 := mm_wl M_46 135 t (0)
  let M_48 := mm_wl M_47 136 t (0)
  let M_49 := mm_wl M_48 140 t (0)
  M_49
theorem w_f_X12_curved_L53 (k2 : Nat) (p2 : Nat) (σ : mm_M) : ∀ t : Nat, mm_fr [132, 134, 133, 135, 136, 140] σ (f_X12_curved_L53 k2 p2 σ t)
  | 0 => mm_fr_refl _ _
  | t + 1 => have ih := w_f_X12_curved_L53 k2 p2 σ t
    (mm_fr_wl (by simp) (mm_fr_wl (by simp) (mm_fr_wl (by simp) (mm_fr_wl (by simp) (mm_fr_wl (by simp) (mm_fr_wl (by simp) ih))))))
def f_X12_curved (k1 : Nat) (p1 : Nat) (k2 : Nat) (p2 : Nat) (M : mm_M) : mm_M :=
  let M_1 := f_X12_copy k1 p1 144 0 32 M
  let M_2 := mm_w M_1 144 31 (mm_b (((M_1.1 144 31) &&& (127 : Int32)) ||| (64 : Int32)))
  let M_3 := mm_w M_2 144 0 (mm_b ((M_2.1 144 0) &&& (248 : Int32)))
  let M_4 := f_X12_curved_L53 k2 p2 M_3 16
  let M_6 := mm_wl M_4 132 15 ((M_4.2 132 15) &&& (32767))
  let M_7 := f_X12_same 134 132 M_6
  let M_8 := mm_wl M_7 133 0 (1)
  let M_9 := mm_wl M_8 136 0 (1)
  let M_10 := mm_wl M_9 140 0 (56129)
  let M_11 := mm_wl M_10 140 1 (1)
  let M_12 := f_X12_curved_L206 M_11 255
  let M_14 := f_X12_inverted 135 135 M_12
  let M_15 := f_X12_times 133 133 135 M_14
  let M_16 := f_X12_packed 145 133 M_15
  M_16
theorem w_f_X12_curved (k1 : Nat) (p1 : Nat) (k2 : Nat) (p2 : Nat) (M : mm_M) : mm_fr [144, 132, 134, 133, 136, 140, 142, 135, 143, 139, 145, 141, 137, 138] M (f_X12_curved k1 p1 k2 p2 M) := by
  unfold f_X12_curved
  exact ((w_f_X12_packed _ _ _).on (by simp) ((w_f_X12_times _ _ _ _).on (by simp) ((w_f_X12_inverted _ _ _).on (by simp) ((w_f_X12_curved_L206 _ 255).on (by simp) (mm_fr_wl (by simp) (mm_fr_wl (by simp) (mm_fr_wl (by simp) (mm_fr_wl (by simp) ((w_f_X12_same _ _ _).on (by simp) (mm_fr_wl (by simp) ((w_f_X12_curved_L53 _ _ _ 16).on (by simp) (mm_fr_w (by simp) (mm_fr_w (by simp) ((w_f_X12_copy _ _ _ _ _ _).on (by simp) (mm_fr_refl _ _)))))))))))))))
set_option maxHeartbeats 4000000 in
set_option maxRecDepth 100000 in
theorem c_X12_curved (l : Launch) (D : va_G) (b0 : Nat) (r : Nat → Nat) (M : mm_M) (k1 : Nat) (p1 : Nat) (k2 : Nat) (p2 : Nat) {n1 : Nat} {w1 : Bool} (hk1 : k1 < 181) (hs1 : mm_sh k1 = .inl (.byte, n1, w1)) (hn1 : n1 < 2 ^ 31) (hp1 : p1 + 32 ≤ n1) (hq1 : n1 < 2 ^ 30) {n2 : Nat} {w2 : Bool} (hk2 : k2 < 181) (hs2 : mm_sh k2 = .inl (.byte, n2, w2)) (hn2 : n2 < 2 ^ 31) (hp2 : p2 + 32 ≤ n2) (hq2 : n2 < 2 ^ 30) : mm_Mv l yX12_curved cX12_curved 7 3 71 D b0 r [.ref (r (117)), .ref (r (k1)), .int (nI (p1)), .ref (r (k2)), .int (nI (p2))] M (fun M' => M' = f_X12_curved k1 p1 k2 p2 M) := by
  refine mm_enter (cc := cX12_curved) (nL := 7) (ret := none) (by decide) (Nat.le_of_ble_eq_true rfl) ?_
  intro p e s m args below meth c C w ls hl
  have hl : lv_has ls 7 [(0, .ref (r (117))), (1, .ref (r (k1))), (2, .int (nI (p1))), (3, .ref (r (k2))), (4, .int (nI (p2)))] := hl
  refine lv_aload_n C.1 C.2.1 dX12_curved_0 rfl (lv_at hl 1 rfl) ?_
  refine lv_iload_n C.1 C.2.1 dX12_curved_1 rfl (lv_at hl 2 rfl) ?_
  refine lv_aload_n C.1 C.2.1 dX12_curved_2 rfl (lv_at hl 0 rfl) ?_
  refine m_get C w (k := 117) (j := 29) (v := .ref (r (144))) flX12_162 (by decide) rfl rfl dX12_curved_3 ?_
  refine lv_iconst (v := 0) C.1 C.2.1 dX12_curved_6 (by decide) ?_
  refine lv_bipush (v := 32) C.1 C.2.1 dX12_curved_7 (by decide) ?_
  refine m_csv C w hl csX12_265 (As := [.ref (r (k1)), .int (nI (p1)), .ref (r (144)), .int 0, .int 32]) (rest := []) (c_X12_copy l D b0 r M k1 p1 144 0 32 hk1 hs1 hn1 (by omega) (by decide) rfl (by decide) (by omega) (by omega) (by omega)) rfl rfl (Nat.le_of_ble_eq_true rfl) ⟨Nat.le_of_ble_eq_true rfl, Nat.le_of_ble_eq_true rfl⟩ ⟨Nat.zero_le _, Nat.zero_le _⟩ dX12_curved_9 (fun M_1 H locs eM_1 w => ?_)
  refine lv_aload_n C.1 C.2.1 dX12_curved_12 rfl (lv_at hl 0 rfl) ?_
  refine m_get C w (k := 117) (j := 29) (v := .ref (r (144))) flX12_162 (by decide) rfl rfl dX12_curved_13 ?_
  refine lv_bipush (v := 31) C.1 C.2.1 dX12_curved_16 (by decide) ?_
  refine lv_aload_n C.1 C.2.1 dX12_curved_18 rfl (lv_at hl 0 rfl) ?_
  refine m_get C w (k := 117) (j := 29) (v := .ref (r (144))) flX12_162 (by decide) rfl rfl dX12_curved_19 ?_
  refine lv_bipush (v := 31) C.1 C.2.1 dX12_curved_22 (by decide) ?_
  refine m_bald C w (k := 144) (i := 31) (n := 32) (wr := true) (by decide) rfl (by omega) (by decide) dX12_curved_24 ?_
  refine lv_bipush (v := 127) C.1 C.2.1 dX12_curved_25 (by decide) ?_
  refine lv_iand C.1 C.2.1 dX12_curved_27 ?_
  refine lv_bipush (v := 64) C.1 C.2.1 dX12_curved_28 (by decide) ?_
  refine lv_ior C.1 C.2.1 dX12_curved_30 ?_
  refine lv_i2b (v := mm_b (((M_1.1 144 31) &&& (127 : Int32)) ||| (64 : Int32))) C.1 C.2.1 dX12_curved_31 rfl ?_
  refine m_bast C w (k := 144) (i := 31) (n := 32) (x := (mm_b (((M_1.1 144 31) &&& (127 : Int32)) ||| (64 : Int32)))) (by decide) rfl (by omega) (by decide) (mm_bb _) dX12_curved_32 (fun H locs w => ?_)
  obtain ⟨M_2, eM_2⟩ : ∃ zz, zz = mm_w M_1 144 31 (mm_b (((M_1.1 144 31) &&& (127 : Int32)) ||| (64 : Int32))) := ⟨_, rfl⟩
  rw [← eM_2] at w
  refine lv_aload_n C.1 C.2.1 dX12_curved_33 rfl (lv_at hl 0 rfl) ?_
  refine m_get C w (k := 117) (j := 29) (v := .ref (r (144))) flX12_162 (by decide) rfl rfl dX12_curved_34 ?_
  refine lv_iconst (v := 0) C.1 C.2.1 dX12_curved_37 (by decide) ?_
  refine lv_aload_n C.1 C.2.1 dX12_curved_38 rfl (lv_at hl 0 rfl) ?_
  refine m_get C w (k := 117) (j := 29) (v := .ref (r (144))) flX12_162 (by decide) rfl rfl dX12_curved_39 ?_
  refine lv_iconst (v := 0) C.1 C.2.1 dX12_curved_42 (by decide) ?_
  refine m_bald C w (k := 144) (i := 0) (n := 32) (wr := true) (by decide) rfl (by omega) (by decide) dX12_curved_43 ?_
  refine lv_sipush (v := 248) C.1 C.2.1 dX12_curved_44 (by decide) ?_
  refine lv_iand C.1 C.2.1 dX12_curved_47 ?_
  refine lv_i2b (v := mm_b ((M_2.1 144 0) &&& (248 : Int32))) C.1 C.2.1 dX12_curved_48 rfl ?_
  refine m_bast C w (k := 144) (i := 0) (n := 32) (x := (mm_b ((M_2.1 144 0) &&& (248 : Int32)))) (by decide) rfl (by omega) (by decide) (mm_bb _) dX12_curved_49 (fun H locs w => ?_)
  obtain ⟨M_3, eM_3⟩ : ∃ zz, zz = mm_w M_2 144 0 (mm_b ((M_2.1 144 0) &&& (248 : Int32))) := ⟨_, rfl⟩
  rw [← eM_3] at w
  refine lv_iconst (v := 0) C.1 C.2.1 dX12_curved_50 (by decide) ?_
  refine lv_istore (lv' := [(5, .int 0), (0, .ref (r (117))), (1, .ref (r (k1))), (2, .int (nI (p1))), (3, .ref (r (k2))), (4, .int (nI (p2)))]) C.1 C.2.1 dX12_curved_51 hl (by decide) rfl (fun ls hl => ?_)
  have loop : ∀ (k t : Nat), t + k = 16 → ∀ (H : Heap) (locs : List Loc) (ls : Array Slot), mm_W D b0 r (f_X12_curved_L53 k2 p2 M_3 t) s H locs → lv_has ls 7 [(5, .int (nI (t))), (0, .ref (r (117))), (1, .ref (r (k1))), (2, .int (nI (p1))), (3, .ref (r (k2))), (4, .int (nI (p2)))] → W p l e (mm_rm 3 71) s m args below meth c H locs 0 0 (MQ below (va_Qv (fun M' => M' = f_X12_curved k1 p1 k2 p2 M) (mm_U D b0 r) (fun q => b0 ≤ q)) args s 0 0 (fun q => b0 ≤ q)) (F0 m 53 ls []) := by
    intro k
    induction k with
    | zero =>
      intro t ht H locs ls w hl
      obtain rfl : 16 = t := by omega
      obtain ⟨M_4, eM_4⟩ : ∃ zz, zz = f_X12_curved_L53 k2 p2 M_3 16 := ⟨_, rfl⟩
      rw [← eM_4] at w
      refine lv_iload C.1 C.2.1 dX12_curved_53 (lv_at hl 0 rfl) ?_
      refine lv_bipush (v := 16) C.1 C.2.1 dX12_curved_55 (by decide) ?_
      refine m_icmp_ge (tgt := 147) (a := 16) (b := 16) C (by omega) (by omega) dX12_curved_57 (by decide) (fun _ => ?_) (fun h_5 => absurd h_5 (by omega))
      refine lv_aload_n C.1 C.2.1 dX12_curved_147 rfl (lv_at hl 1 rfl) ?_
      refine m_get C w (k := 117) (j := 17) (v := .ref (r (132))) flX12_125 (by decide) rfl rfl dX12_curved_148 ?_
      refine lv_bipush (v := 15) C.1 C.2.1 dX12_curved_151 (by decide) ?_
      refine lv_dup2_11 C.1 C.2.1 dX12_curved_153 rfl rfl ?_
      refine m_lald C w (k := 132) (i := 15) (n := 16) (wr := true) (by decide) rfl (by omega) (by decide) dX12_curved_154 ?_
      refine lv_ldc2 (v := (32767)) C.1 C.2.1 C.2.2.2.1 (C.2.2.2.2.1 _ klX12_299) dX12_curved_155 ?_
      refine lv_land C.1 C.2.1 dX12_curved_158 ?_
      refine m_last C w (k := 132) (i := 15) (n := 16) (x := ((M_4.2 132 15) &&& (32767))) (by decide) rfl (by omega) (by decide) dX12_curved_159 (fun H locs w => ?_)
      obtain ⟨M_6, eM_6⟩ : ∃ zz, zz = mm_wl M_4 132 15 ((M_4.2 132 15) &&& (32767)) := ⟨_, rfl⟩
      rw [← eM_6] at w
      refine lv_aload_n C.1 C.2.1 dX12_curved_160 rfl (lv_at hl 1 rfl) ?_
      refine m_get C w (k := 117) (j := 19) (v := .ref (r (134))) flX12_132 (by decide) rfl rfl dX12_curved_161 ?_
      refine lv_aload_n C.1 C.2.1 dX12_curved_164 rfl (lv_at hl 1 rfl) ?_
      refine m_get C w (k := 117) (j := 17) (v := .ref (r (132))) flX12_125 (by decide) rfl rfl dX12_curved_165 ?_
      refine m_csv C w hl csX12_287 (As := [.ref (r (134)), .ref (r (132))]) (rest := []) (c_X12_same l D b0 r M_6 134 132 (by decide) rfl (by decide) (by omega) (by decide) rfl (by decide) (by omega)) rfl rfl (Nat.le_of_ble_eq_true rfl) ⟨Nat.le_of_ble_eq_true rfl, Nat.le_of_ble_eq_true rfl⟩ ⟨Nat.zero_le _, Nat.zero_le _⟩ dX12_curved_168 (fun M_7 H locs eM_7 w => ?_)
      refine lv_aload_n C.1 C.2.1 dX12_curved_171 rfl (lv_at hl 1 rfl) ?_
      refine m_get C w (k := 117) (j := 18) (v := .ref (r (133))) flX12_129 (by decide) rfl rfl dX12_curved_172 ?_
      refine lv_iconst (v := 0) C.1 C.2.1 dX12_curved_175 (by decide) ?_
      refine lv_lconst (v := 1) C.1 C.2.1 dX12_curved_176 (by decide) ?_
      refine m_last C w (k := 133) (i := 0) (n := 16) (x := (1)) (by decide) rfl (by omega) (by decide) dX12_curved_177 (fun H locs w => ?_)
      obtain ⟨M_8, eM_8⟩ : ∃ zz, zz = mm_wl M_7 133 0 (1) := ⟨_, rfl⟩
      rw [← eM_8] at w
      refine lv_aload_n C.1 C.2.1 dX12_curved_178 rfl (lv_at hl 1 rfl) ?_
      refine m_get C w (k := 117) (j := 21) (v := .ref (r (136))) flX12_138 (by decide) rfl rfl dX12_curved_179 ?_
      refine lv_iconst (v := 0) C.1 C.2.1 dX12_curved_182 (by decide) ?_
      refine lv_lconst (v := 1) C.1 C.2.1 dX12_curved_183 (by decide) ?_
      refine m_last C w (k := 136) (i := 0) (n := 16) (x := (1)) (by decide) rfl (by omega) (by decide) dX12_curved_184 (fun H locs w => ?_)
      obtain ⟨M_9, eM_9⟩ : ∃ zz, zz = mm_wl M_8 136 0 (1) := ⟨_, rfl⟩
      rw [← eM_9] at w
      refine lv_aload_n C.1 C.2.1 dX12_curved_185 rfl (lv_at hl 1 rfl) ?_
      refine m_get C w (k := 117) (j := 25) (v := .ref (r (140))) flX12_150 (by decide) rfl rfl dX12_curved_186 ?_
      refine lv_iconst (v := 0) C.1 C.2.1 dX12_curved_189 (by decide) ?_
      refine lv_ldc2 (v := (56129)) C.1 C.2.1 C.2.2.2.1 (C.2.2.2.2.1 _ klX12_303) dX12_curved_190 ?_
      refine m_last C w (k := 140) (i := 0) (n := 16) (x := (56129)) (by decide) rfl (by omega) (by decide) dX12_curved_193 (fun H locs w => ?_)
      obtain ⟨M_10, eM_10⟩ : ∃ zz, zz = mm_wl M_9 140 0 (56129) := ⟨_, rfl⟩
      rw [← eM_10] at w
      refine lv_aload_n C.1 C.2.1 dX12_curved_194 rfl (lv_at hl 1 rfl) ?_
      refine m_get C w (k := 117) (j := 25) (v := .ref (r (140))) flX12_150 (by decide) rfl rfl dX12_curved_195 ?_
      refine lv_iconst (v := 1) C.1 C.2.1 dX12_curved_198 (by decide) ?_
      refine lv_lconst (v := 1) C.1 C.2.1 dX12_curved_199 (by decide) ?_
      refine m_last C w (k := 140) (i := 1) (n := 16) (x := (1)) (by decide) rfl (by omega) (by decide) dX12_curved_200 (fun H locs w => ?_)
      obtain ⟨M_11, eM_11⟩ : ∃ zz, zz = mm_wl M_10 140 1 (1) := ⟨_, rfl⟩
      rw [← eM_11] at w
      refine lv_sipush (v := 254) C.1 C.2.1 dX12_curved_201 (by decide) ?_
      refine lv_istore (lv' := [(5, .int 254), (0, .ref (r (117))), (1, .ref (r (k1))), (2, .int (nI (p1))), (3, .ref (r (k2))), (4, .int (nI (p2)))]) C.1 C.2.1 dX12_curved_204 hl (by decide) rfl (fun ls hl => ?_)
      have loop : ∀ (k t : Nat), t + k = 255 → ∀ (H : Heap) (locs : List Loc) (ls : Array Slot), mm_W D b0 r (f_X12_curved_L206 M_11 t) s H locs → lv_has ls 7 [(5, .int (nI (255 - t) - 1)), (0, .ref (r (117))), (1, .ref (r (k1))), (2, .int (nI (p1))), (3, .ref (r (k2))), (4, .int (nI (p2)))] → W p l e (mm_rm 3 71) s m args below meth c H locs 0 0 (MQ below (va_Qv (fun M' => M' = f_X12_curved k1 p1 k2 p2 M) (mm_U D b0 r) (fun q => b0 ≤ q)) args s 0 0 (fun q => b0 ≤ q)) (F0 m 206 ls []) := by
        intro k
        induction k with
        | zero =>
          intro t ht H locs ls w hl
          obtain rfl : 255 = t := by omega
          obtain ⟨M_12, eM_12⟩ : ∃ zz, zz = f_X12_curved_L206 M_11 255 := ⟨_, rfl⟩
          rw [← eM_12] at w
          refine lv_iload C.1 C.2.1 dX12_curved_206 (lv_at hl 0 rfl) ?_
          refine lv_if_lt (tgt := 568) C.1 C.2.1 dX12_curved_208 (by decide) (fun _ => ?_) (fun h_13 => absurd h_13 (fun q => q (mm_neg (by omega))))
          refine lv_aload_n C.1 C.2.1 dX12_curved_568 rfl (lv_at hl 1 rfl) ?_
          refine lv_aload_n C.1 C.2.1 dX12_curved_569 rfl (lv_at hl 1 rfl) ?_
          refine m_get C w (k := 117) (j := 20) (v := .ref (r (135))) flX12_135 (by decide) rfl rfl dX12_curved_570 ?_
          refine lv_aload_n C.1 C.2.1 dX12_curved_573 rfl (lv_at hl 1 rfl) ?_
          refine m_get C w (k := 117) (j := 20) (v := .ref (r (135))) flX12_135 (by decide) rfl rfl dX12_curved_574 ?_
          refine m_cvv C w hl cvX12_315 (k := 117) (by decide) rfl (q := (RX12, TX12, 58)) rfl rfl (As := [.ref (r (135)), .ref (r (135))]) (rest := []) (c_X12_inverted l D b0 r M_12 135 135 (by decide) rfl (by decide) (by omega) (by decide) rfl (by decide) (by omega)) rfl rfl (Nat.le_of_ble_eq_true rfl) ⟨Nat.le_of_ble_eq_true rfl, Nat.le_of_ble_eq_true rfl⟩ ⟨Nat.zero_le _, Nat.zero_le _⟩ dX12_curved_577 (fun M_14 H locs eM_14 w => ?_)
          refine lv_aload_n C.1 C.2.1 dX12_curved_580 rfl (lv_at hl 1 rfl) ?_
          refine lv_aload_n C.1 C.2.1 dX12_curved_581 rfl (lv_at hl 1 rfl) ?_
          refine m_get C w (k := 117) (j := 18) (v := .ref (r (133))) flX12_129 (by decide) rfl rfl dX12_curved_582 ?_
          refine lv_aload_n C.1 C.2.1 dX12_curved_585 rfl (lv_at hl 1 rfl) ?_
          refine m_get C w (k := 117) (j := 18) (v := .ref (r (133))) flX12_129 (by decide) rfl rfl dX12_curved_586 ?_
          refine lv_aload_n C.1 C.2.1 dX12_curved_589 rfl (lv_at hl 1 rfl) ?_
          refine m_get C w (k := 117) (j := 20) (v := .ref (r (135))) flX12_135 (by decide) rfl rfl dX12_curved_590 ?_
          refine m_cvv C w hl cvX12_291 (k := 117) (by decide) rfl (q := (RX12, TX12, 58)) rfl rfl (As := [.ref (r (133)), .ref (r (133)), .ref (r (135))]) (rest := []) (c_X12_times l D b0 r M_14 133 133 135 (by decide) rfl (by decide) (by omega) (by decide) rfl (by decide) (by omega) (by decide) rfl (by decide) (by omega)) rfl rfl (Nat.le_of_ble_eq_true rfl) ⟨Nat.le_of_ble_eq_true rfl, Nat.le_of_ble_eq_true rfl⟩ ⟨Nat.zero_le _, Nat.zero_le _⟩ dX12_curved_593 (fun M_15 H locs eM_15 w => ?_)
          refine lv_aload_n C.1 C.2.1 dX12_curved_596 rfl (lv_at hl 1 rfl) ?_
          refine lv_aload_n C.1 C.2.1 dX12_curved_597 rfl (lv_at hl 1 rfl) ?_
          refine m_get C w (k := 117) (j := 30) (v := .ref (r (145))) flX12_165 (by decide) rfl rfl dX12_curved_598 ?_
          refine lv_aload_n C.1 C.2.1 dX12_curved_601 rfl (lv_at hl 1 rfl) ?_
          refine m_get C w (k := 117) (j := 18) (v := .ref (r (133))) flX12_129 (by decide) rfl rfl dX12_curved_602 ?_
          refine m_cvv C w hl cvX12_318 (k := 117) (by decide) rfl (q := (RX12, TX12, 58)) rfl rfl (As := [.ref (r (145)), .ref (r (133))]) (rest := []) (c_X12_packed l D b0 r M_15 145 133 (by decide) rfl (by decide) (by omega) (by decide) rfl (by decide) (by omega)) rfl rfl (Nat.le_of_ble_eq_true rfl) ⟨Nat.le_of_ble_eq_true rfl, Nat.le_of_ble_eq_true rfl⟩ ⟨Nat.zero_le _, Nat.zero_le _⟩ dX12_curved_605 (fun M_16 H locs eM_16 w => ?_)
          exact m_vret C w (by subst eM_1 eM_2 eM_3 eM_4 eM_6 eM_7 eM_8 eM_9 eM_10 eM_11 eM_12 eM_14 eM_15 eM_16; exact Eq.symm (rfl)) dX12_curved_608
        | succ k ih =>
          intro t ht H locs ls w hl
          obtain ⟨M_17, eM_17⟩ : ∃ zz, zz = f_X12_curved_L206 M_11 t := ⟨_, rfl⟩
          rw [← eM_17] at w
          rw [mm_dn (n := 255 - t) (m := 254 - t) (by omega)] at hl
          refine lv_iload C.1 C.2.1 dX12_curved_206 (lv_at hl 0 rfl) ?_
          refine lv_if_lt (tgt := 568) C.1 C.2.1 dX12_curved_208 (by decide) (fun h_18 => absurd h_18 (nI_pos (by omega))) (fun _ => ?_)
          refine lv_aload_n C.1 C.2.1 dX12_curved_211 rfl (lv_at hl 1 rfl) ?_
          refine m_get C w (k := 117) (j := 29) (v := .ref (r (144))) flX12_162 (by decide) rfl rfl dX12_curved_212 ?_
          refine lv_iload C.1 C.2.1 dX12_curved_215 (lv_at hl 0 rfl) ?_
          refine lv_iconst (v := 3) C.1 C.2.1 dX12_curved_217 (by decide) ?_
          refine lv_ishr C.1 C.2.1 dX12_curved_218 ?_
          refine m_i (y := nI ((254 - t) / 8)) (pk_shrN (n := 254 - t) (by omega) _ 3 (by decide)) ?_
          refine m_bald C w (k := 144) (i := (254 - t) / 8) (n := 32) (wr := true) (by decide) rfl (by omega) (by decide) dX12_curved_219 ?_
          refine lv_iload C.1 C.2.1 dX12_curved_220 (lv_at hl 0 rfl) ?_
          refine lv_bipush (v := 7) C.1 C.2.1 dX12_curved_222 (by decide) ?_
          refine lv_iand C.1 C.2.1 dX12_curved_224 ?_
          refine m_i (y := nI ((254 - t) % 8)) (pk_andN (n := 254 - t) (by omega) 3 (by decide)) ?_
          refine lv_ishr C.1 C.2.1 dX12_curved_225 ?_
          refine lv_iconst (v := 1) C.1 C.2.1 dX12_curved_226 (by decide) ?_
          refine lv_iand C.1 C.2.1 dX12_curved_227 ?_
          refine lv_topi (fun x6_19 ex6_19 => ?_)
          refine lv_istore (lv' := [(6, .int (x6_19)), (5, .int (nI (254 - t))), (0, .ref (r (117))), (1, .ref (r (k1))), (2, .int (nI (p1))), (3, .ref (r (k2))), (4, .int (nI (p2)))]) C.1 C.2.1 dX12_curved_228 hl (by decide) rfl (fun ls hl => ?_)
          refine lv_aload_n C.1 C.2.1 dX12_curved_230 rfl (lv_at hl 2 rfl) ?_
          refine m_get C w (k := 117) (j := 18) (v := .ref (r (133))) flX12_129 (by decide) rfl rfl dX12_curved_231 ?_
          refine lv_aload_n C.1 C.2.1 dX12_curved_234 rfl (lv_at hl 2 rfl) ?_
          refine m_get C w (k := 117) (j := 19) (v := .ref (r (134))) flX12_132 (by decide) rfl rfl dX12_curved_235 ?_
          refine lv_iload C.1 C.2.1 dX12_curved_238 (lv_at hl 0 rfl) ?_
          refine m_csv C w hl csX12_305 (As := [.ref (r (133)), .ref (r (134)), .int (x6_19)]) (rest := []) (c_X12_swapped l D b0 r M_17 133 134 (x6_19) (by decide) rfl (by decide) (by omega) (by decide) rfl (by decide) (by omega)) rfl rfl (Nat.le_of_ble_eq_true rfl) ⟨Nat.le_of_ble_eq_true rfl, Nat.le_of_ble_eq_true rfl⟩ ⟨Nat.zero_le _, Nat.zero_le _⟩ dX12_curved_240 (fun M_20 H locs eM_20 w => ?_)
          refine lv_aload_n C.1 C.2.1 dX12_curved_243 rfl (lv_at hl 2 rfl) ?_
          refine m_get C w (k := 117) (j := 20) (v := .ref (r (135))) flX12_135 (by decide) rfl rfl dX12_curved_244 ?_
          refine lv_aload_n C.1 C.2.1 dX12_curved_247 rfl (lv_at hl 2 rfl) ?_
          refine m_get C w (k := 117) (j := 21) (v := .ref (r (136))) flX12_138 (by decide) rfl rfl dX12_curved_248 ?_
          refine lv_iload C.1 C.2.1 dX12_curved_251 (lv_at hl 0 rfl) ?_
          refine m_csv C w hl csX12_305 (As := [.ref (r (135)), .ref (r (136)), .int (x6_19)]) (rest := []) (c_X12_swapped l D b0 r M_20 135 136 (x6_19) (by decide) rfl (by decide) (by omega) (by decide) rfl (by decide) (by omega)) rfl rfl (Nat.le_of_ble_eq_true rfl) ⟨Nat.le_of_ble_eq_true rfl, Nat.le_of_ble_eq_true rfl⟩ ⟨Nat.zero_le _, Nat.zero_le _⟩ dX12_curved_253 (fun M_21 H locs eM_21 w => ?_)
          refine lv_aload_n C.1 C.2.1 dX12_curved_256 rfl (lv_at hl 2 rfl) ?_
          refine m_get C w (k := 117) (j := 22) (v := .ref (r (137))) flX12_141 (by decide) rfl rfl dX12_curved_257 ?_
          refine lv_aload_n C.1 C.2.1 dX12_curved_260 rfl (lv_at hl 2 rfl) ?_
          refine m_get C w (k := 117) (j := 18) (v := .ref (r (133))) flX12_129 (by decide) rfl rfl dX12_curved_261 ?_
          refine lv_aload_n C.1 C.2.1 dX12_curved_264 rfl (lv_at hl 2 rfl) ?_
          refine m_get C w (k := 117) (j := 20) (v := .ref (r (135))) flX12_135 (by decide) rfl rfl dX12_curved_265 ?_
          refine m_csv C w hl csX12_309 (As := [.ref (r (137)), .ref (r (133)), .ref (r (135))]) (rest := []) (c_X12_added l D b0 r M_21 137 133 135 (by decide) rfl (by decide) (by omega) (by decide) rfl (by decide) (by omega) (by decide) rfl (by decide) (by omega)) rfl rfl (Nat.le_of_ble_eq_true rfl) ⟨Nat.le_of_ble_eq_true rfl, Nat.le_of_ble_eq_true rfl⟩ ⟨Nat.zero_le _, Nat.zero_le _⟩ dX12_curved_268 (fun M_22 H locs eM_22 w => ?_)
          refine lv_aload_n C.1 C.2.1 dX12_curved_271 rfl (lv_at hl 2 rfl) ?_
          refine m_get C w (k := 117) (j := 18) (v := .ref (r (133))) flX12_129 (by decide) rfl rfl dX12_curved_272 ?_
          refine lv_aload_n C.1 C.2.1 dX12_curved_275 rfl (lv_at hl 2 rfl) ?_
          refine m_get C w (k := 117) (j := 18) (v := .ref (r (133))) flX12_129 (by decide) rfl rfl dX12_curved_276 ?_
          refine lv_aload_n C.1 C.2.1 dX12_curved_279 rfl (lv_at hl 2 rfl) ?_
          refine m_get C w (k := 117) (j := 20) (v := .ref (r (135))) flX12_135 (by decide) rfl rfl dX12_curved_280 ?_
          refine m_csv C w hl csX12_312 (As := [.ref (r (133)), .ref (r (133)), .ref (r (135))]) (rest := []) (c_X12_less l D b0 r M_22 133 133 135 (by decide) rfl (by decide) (by omega) (by decide) rfl (by decide) (by omega) (by decide) rfl (by decide) (by omega)) rfl rfl (Nat.le_of_ble_eq_true rfl) ⟨Nat.le_of_ble_eq_true rfl, Nat.le_of_ble_eq_true rfl⟩ ⟨Nat.zero_le _, Nat.zero_le _⟩ dX12_curved_283 (fun M_23 H locs eM_23 w => ?_)
          refine lv_aload_n C.1 C.2.1 dX12_curved_286 rfl (lv_at hl 2 rfl) ?_
          refine m_get C w (k := 117) (j := 20) (v := .ref (r (135))) flX12_135 (by decide) rfl rfl dX12_curved_287 ?_
          refine lv_aload_n C.1 C.2.1 dX12_curved_290 rfl (lv_at hl 2 rfl) ?_
          refine m_get C w (k := 117) (j := 19) (v := .ref (r (134))) flX12_132 (by decide) rfl rfl dX12_curved_291 ?_
          refine lv_aload_n C.1 C.2.1 dX12_curved_294 rfl (lv_at hl 2 rfl) ?_
          refine m_get C w (k := 117) (j := 21) (v := .ref (r (136))) flX12_138 (by decide) rfl rfl dX12_curved_295 ?_
          refine m_csv C w hl csX12_309 (As := [.ref (r (135)), .ref (r (134)), .ref (r (136))]) (rest := []) (c_X12_added l D b0 r M_23 135 134 136 (by decide) rfl (by decide) (by omega) (by decide) rfl (by decide) (by omega) (by decide) rfl (by decide) (by omega)) rfl rfl (Nat.le_of_ble_eq_true rfl) ⟨Nat.le_of_ble_eq_true rfl, Nat.le_of_ble_eq_true rfl⟩ ⟨Nat.zero_le _, Nat.zero_le _⟩ dX12_curved_298 (fun M_24 H locs eM_24 w => ?_)
          refine lv_aload_n C.1 C.2.1 dX12_curved_301 rfl (lv_at hl 2 rfl) ?_
          refine m_get C w (k := 117) (j := 19) (v := .ref (r (134))) flX12_132 (by decide) rfl rfl dX12_curved_302 ?_
          refine lv_aload_n C.1 C.2.1 dX12_curved_305 rfl (lv_at hl 2 rfl) ?_
          refine m_get C w (k := 117) (j := 19) (v := .ref (r (134))) flX12_132 (by decide) rfl rfl dX12_curved_306 ?_
          refine lv_aload_n C.1 C.2.1 dX12_curved_309 rfl (lv_at hl 2 rfl) ?_
          refine m_get C w (k := 117) (j := 21) (v := .ref (r (136))) flX12_138 (by decide) rfl rfl dX12_curved_310 ?_
          refine m_csv C w hl csX12_312 (As := [.ref (r (134)), .ref (r (134)), .ref (r (136))]) (rest := []) (c_X12_less l D b0 r M_24 134 134 136 (by decide) rfl (by decide) (by omega) (by decide) rfl (by decide) (by omega) (by decide) rfl (by decide) (by omega)) rfl rfl (Nat.le_of_ble_eq_true rfl) ⟨Nat.le_of_ble_eq_true rfl, Nat.le_of_ble_eq_true rfl⟩ ⟨Nat.zero_le _, Nat.zero_le _⟩ dX12_curved_313 (fun M_25 H locs eM_25 w => ?_)
          refine lv_aload_n C.1 C.2.1 dX12_curved_316 rfl (lv_at hl 2 rfl) ?_
          refine lv_aload_n C.1 C.2.1 dX12_curved_317 rfl (lv_at hl 2 rfl) ?_
          refine m_get C w (k := 117) (j := 21) (v := .ref (r (136))) flX12_138 (by decide) rfl rfl dX12_curved_318 ?_
          refine lv_aload_n C.1 C.2.1 dX12_curved_321 rfl (lv_at hl 2 rfl) ?_
          refine m_get C w (k := 117) (j := 22) (v := .ref (r (137))) flX12_141 (by decide) rfl rfl dX12_curved_322 ?_
          refine lv_aload_n C.1 C.2.1 dX12_curved_325 rfl (lv_at hl 2 rfl) ?_
          refine m_get C w (k := 117) (j := 22) (v := .ref (r (137))) flX12_141 (by decide) rfl rfl dX12_curved_326 ?_
          refine m_cvv C w hl cvX12_291 (k := 117) (by decide) rfl (q := (RX12, TX12, 58)) rfl rfl (As := [.ref (r (136)), .ref (r (137)), .ref (r (137))]) (rest := []) (c_X12_times l D b0 r M_25 136 137 137 (by decide) rfl (by decide) (by omega) (by decide) rfl (by decide) (by omega) (by decide) rfl (by decide) (by omega)) rfl rfl (Nat.le_of_ble_eq_true rfl) ⟨Nat.le_of_ble_eq_true rfl, Nat.le_of_ble_eq_true rfl⟩ ⟨Nat.zero_le _, Nat.zero_le _⟩ dX12_curved_329 (fun M_26 H locs eM_26 w => ?_)
          refine lv_aload_n C.1 C.2.1 dX12_curved_332 rfl (lv_at hl 2 rfl) ?_
          refine lv_aload_n C.1 C.2.1 dX12_curved_333 rfl (lv_at hl 2 rfl) ?_
          refine m_get C w (k := 117) (j := 23) (v := .ref (r (138))) flX12_144 (by decide) rfl rfl dX12_curved_334 ?_
          refine lv_aload_n C.1 C.2.1 dX12_curved_337 rfl (lv_at hl 2 rfl) ?_
          refine m_get C w (k := 117) (j := 18) (v := .ref (r (133))) flX12_129 (by decide) rfl rfl dX12_curved_338 ?_
          refine lv_aload_n C.1 C.2.1 dX12_curved_341 rfl (lv_at hl 2 rfl) ?_
          refine m_get C w (k := 117) (j := 18) (v := .ref (r (133))) flX12_129 (by decide) rfl rfl dX12_curved_342 ?_
          refine m_cvv C w hl cvX12_291 (k := 117) (by decide) rfl (q := (RX12, TX12, 58)) rfl rfl (As := [.ref (r (138)), .ref (r (133)), .ref (r (133))]) (rest := []) (c_X12_times l D b0 r M_26 138 133 133 (by decide) rfl (by decide) (by omega) (by decide) rfl (by decide) (by omega) (by decide) rfl (by decide) (by omega)) rfl rfl (Nat.le_of_ble_eq_true rfl) ⟨Nat.le_of_ble_eq_true rfl, Nat.le_of_ble_eq_true rfl⟩ ⟨Nat.zero_le _, Nat.zero_le _⟩ dX12_curved_345 (fun M_27 H locs eM_27 w => ?_)
          refine lv_aload_n C.1 C.2.1 dX12_curved_348 rfl (lv_at hl 2 rfl) ?_
          refine lv_aload_n C.1 C.2.1 dX12_curved_349 rfl (lv_at hl 2 rfl) ?_
          refine m_get C w (k := 117) (j := 18) (v := .ref (r (133))) flX12_129 (by decide) rfl rfl dX12_curved_350 ?_
          refine lv_aload_n C.1 C.2.1 dX12_curved_353 rfl (lv_at hl 2 rfl) ?_
          refine m_get C w (k := 117) (j := 20) (v := .ref (r (135))) flX12_135 (by decide) rfl rfl dX12_curved_354 ?_
          refine lv_aload_n C.1 C.2.1 dX12_curved_357 rfl (lv_at hl 2 rfl) ?_
          refine m_get C w (k := 117) (j := 18) (v := .ref (r (133))) flX12_129 (by decide) rfl rfl dX12_curved_358 ?_
          refine m_cvv C w hl cvX12_291 (k := 117) (by decide) rfl (q := (RX12, TX12, 58)) rfl rfl (As := [.ref (r (133)), .ref (r (135)), .ref (r (133))]) (rest := []) (c_X12_times l D b0 r M_27 133 135 133 (by decide) rfl (by decide) (by omega) (by decide) rfl (by decide) (by omega) (by decide) rfl (by decide) (by omega)) rfl rfl (Nat.le_of_ble_eq_true rfl) ⟨Nat.le_of_ble_eq_true rfl, Nat.le_of_ble_eq_true rfl⟩ ⟨Nat.zero_le _, Nat.zero_le _⟩ dX12_curved_361 (fun M_28 H locs eM_28 w => ?_)
          refine lv_aload_n C.1 C.2.1 dX12_curved_364 rfl (lv_at hl 2 rfl) ?_
          refine lv_aload_n C.1 C.2.1 dX12_curved_365 rfl (lv_at hl 2 rfl) ?_
          refine m_get C w (k := 117) (j := 20) (v := .ref (r (135))) flX12_135 (by decide) rfl rfl dX12_curved_366 ?_
          refine lv_aload_n C.1 C.2.1 dX12_curved_369 rfl (lv_at hl 2 rfl) ?_
          refine m_get C w (k := 117) (j := 19) (v := .ref (r (134))) flX12_132 (by decide) rfl rfl dX12_curved_370 ?_
          refine lv_aload_n C.1 C.2.1 dX12_curved_373 rfl (lv_at hl 2 rfl) ?_
          refine m_get C w (k := 117) (j := 22) (v := .ref (r (137))) flX12_141 (by decide) rfl rfl dX12_curved_374 ?_
          refine m_cvv C w hl cvX12_291 (k := 117) (by decide) rfl (q := (RX12, TX12, 58)) rfl rfl (As := [.ref (r (135)), .ref (r (134)), .ref (r (137))]) (rest := []) (c_X12_times l D b0 r M_28 135 134 137 (by decide) rfl (by decide) (by omega) (by decide) rfl (by decide) (by omega) (by decide) rfl (by decide) (by omega)) rfl rfl (Nat.le_of_ble_eq_true rfl) ⟨Nat.le_of_ble_eq_true rfl, Nat.le_of_ble_eq_true rfl⟩ ⟨Nat.zero_le _, Nat.zero_le _⟩ dX12_curved_377 (fun M_29 H locs eM_29 w => ?_)
          refine lv_aload_n C.1 C.2.1 dX12_curved_380 rfl (lv_at hl 2 rfl) ?_
          refine m_get C w (k := 117) (j := 22) (v := .ref (r (137))) flX12_141 (by decide) rfl rfl dX12_curved_381 ?_
          refine lv_aload_n C.1 C.2.1 dX12_curved_384 rfl (lv_at hl 2 rfl) ?_
          refine m_get C w (k := 117) (j := 18) (v := .ref (r (133))) flX12_129 (by decide) rfl rfl dX12_curved_385 ?_
          refine lv_aload_n C.1 C.2.1 dX12_curved_388 rfl (lv_at hl 2 rfl) ?_
          refine m_get C w (k := 117) (j := 20) (v := .ref (r (135))) flX12_135 (by decide) rfl rfl dX12_curved_389 ?_
          refine m_csv C w hl csX12_309 (As := [.ref (r (137)), .ref (r (133)), .ref (r (135))]) (rest := []) (c_X12_added l D b0 r M_29 137 133 135 (by decide) rfl (by decide) (by omega) (by decide) rfl (by decide) (by omega) (by decide) rfl (by decide) (by omega)) rfl rfl (Nat.le_of_ble_eq_true rfl) ⟨Nat.le_of_ble_eq_true rfl, Nat.le_of_ble_eq_true rfl⟩ ⟨Nat.zero_le _, Nat.zero_le _⟩ dX12_curved_392 (fun M_30 H locs eM_30 w => ?_)
          refine lv_aload_n C.1 C.2.1 dX12_curved_395 rfl (lv_at hl 2 rfl) ?_
          refine m_get C w (k := 117) (j := 18) (v := .ref (r (133))) flX12_129 (by decide) rfl rfl dX12_curved_396 ?_
          refine lv_aload_n C.1 C.2.1 dX12_curved_399 rfl (lv_at hl 2 rfl) ?_
          refine m_get C w (k := 117) (j := 18) (v := .ref (r (133))) flX12_129 (by decide) rfl rfl dX12_curved_400 ?_
          refine lv_aload_n C.1 C.2.1 dX12_curved_403 rfl (lv_at hl 2 rfl) ?_
          refine m_get C w (k := 117) (j := 20) (v := .ref (r (135))) flX12_135 (by decide) rfl rfl dX12_curved_404 ?_
          refine m_csv C w hl csX12_312 (As := [.ref (r (133)), .ref (r (133)), .ref (r (135))]) (rest := []) (c_X12_less l D b0 r M_30 133 133 135 (by decide) rfl (by decide) (by omega) (by decide) rfl (by decide) (by omega) (by decide) rfl (by decide) (by omega)) rfl rfl (Nat.le_of_ble_eq_true rfl) ⟨Nat.le_of_ble_eq_true rfl, Nat.le_of_ble_eq_true rfl⟩ ⟨Nat.zero_le _, Nat.zero_le _⟩ dX12_curved_407 (fun M_31 H locs eM_31 w => ?_)
          refine lv_aload_n C.1 C.2.1 dX12_curved_410 rfl (lv_at hl 2 rfl) ?_
          refine lv_aload_n C.1 C.2.1 dX12_curved_411 rfl (lv_at hl 2 rfl) ?_
          refine m_get C w (k := 117) (j := 19) (v := .ref (r (134))) flX12_132 (by decide) rfl rfl dX12_curved_412 ?_
          refine lv_aload_n C.1 C.2.1 dX12_curved_415 rfl (lv_at hl 2 rfl) ?_
          refine m_get C w (k := 117) (j := 18) (v := .ref (r (133))) flX12_129 (by decide) rfl rfl dX12_curved_416 ?_
          refine lv_aload_n C.1 C.2.1 dX12_curved_419 rfl (lv_at hl 2 rfl) ?_
          refine m_get C w (k := 117) (j := 18) (v := .ref (r (133))) flX12_129 (by decide) rfl rfl dX12_curved_420 ?_
          refine m_cvv C w hl cvX12_291 (k := 117) (by decide) rfl (q := (RX12, TX12, 58)) rfl rfl (As := [.ref (r (134)), .ref (r (133)), .ref (r (133))]) (rest := []) (c_X12_times l D b0 r M_31 134 133 133 (by decide) rfl (by decide) (by omega) (by decide) rfl (by decide) (by omega) (by decide) rfl (by decide) (by omega)) rfl rfl (Nat.le_of_ble_eq_true rfl) ⟨Nat.le_of_ble_eq_true rfl, Nat.le_of_ble_eq_true rfl⟩ ⟨Nat.zero_le _, Nat.zero_le _⟩ dX12_curved_423 (fun M_32 H locs eM_32 w => ?_)
          refine lv_aload_n C.1 C.2.1 dX12_curved_426 rfl (lv_at hl 2 rfl) ?_
          refine m_get C w (k := 117) (j := 20) (v := .ref (r (135))) flX12_135 (by decide) rfl rfl dX12_curved_427 ?_
          refine lv_aload_n C.1 C.2.1 dX12_curved_430 rfl (lv_at hl 2 rfl) ?_
          refine m_get C w (k := 117) (j := 21) (v := .ref (r (136))) flX12_138 (by decide) rfl rfl dX12_curved_431 ?_
          refine lv_aload_n C.1 C.2.1 dX12_curved_434 rfl (lv_at hl 2 rfl) ?_
          refine m_get C w (k := 117) (j := 23) (v := .ref (r (138))) flX12_144 (by decide) rfl rfl dX12_curved_435 ?_
          refine m_csv C w hl csX12_312 (As := [.ref (r (135)), .ref (r (136)), .ref (r (138))]) (rest := []) (c_X12_less l D b0 r M_32 135 136 138 (by decide) rfl (by decide) (by omega) (by decide) rfl (by decide) (by omega) (by decide) rfl (by decide) (by omega)) rfl rfl (Nat.le_of_ble_eq_true rfl) ⟨Nat.le_of_ble_eq_true rfl, Nat.le_of_ble_eq_true rfl⟩ ⟨Nat.zero_le _, Nat.zero_le _⟩ dX12_curved_438 (fun M_33 H locs eM_33 w => ?_)
          refine lv_aload_n C.1 C.2.1 dX12_curved_441 rfl (lv_at hl 2 rfl) ?_
          refine lv_aload_n C.1 C.2.1 dX12_curved_442 rfl (lv_at hl 2 rfl) ?_
          refine m_get C w (k := 117) (j := 18) (v := .ref (r (133))) flX12_129 (by decide) rfl rfl dX12_curved_443 ?_
          refine lv_aload_n C.1 C.2.1 dX12_curved_446 rfl (lv_at hl 2 rfl) ?_
          refine m_get C w (k := 117) (j := 20) (v := .ref (r (135))) flX12_135 (by decide) rfl rfl dX12_curved_447 ?_
          refine lv_aload_n C.1 C.2.1 dX12_curved_450 rfl (lv_at hl 2 rfl) ?_
          refine m_get C w (k := 117) (j := 25) (v := .ref (r (140))) flX12_150 (by decide) rfl rfl dX12_curved_451 ?_
          refine m_cvv C w hl cvX12_291 (k := 117) (by decide) rfl (q := (RX12, TX12, 58)) rfl rfl (As := [.ref (r (133)), .ref (r (135)), .ref (r (140))]) (rest := []) (c_X12_times l D b0 r M_33 133 135 140 (by decide) rfl (by decide) (by omega) (by decide) rfl (by decide) (by omega) (by decide) rfl (by decide) (by omega)) rfl rfl (Nat.le_of_ble_eq_true rfl) ⟨Nat.le_of_ble_eq_true rfl, Nat.le_of_ble_eq_true rfl⟩ ⟨Nat.zero_le _, Nat.zero_le _⟩ dX12_curved_454 (fun M_34 H locs eM_34 w => ?_)
          refine lv_aload_n C.1 C.2.1 dX12_curved_457 rfl (lv_at hl 2 rfl) ?_
          refine m_get C w (k := 117) (j := 18) (v := .ref (r (133))) flX12_129 (by decide) rfl rfl dX12_curved_458 ?_
          refine lv_aload_n C.1 C.2.1 dX12_curved_461 rfl (lv_at hl 2 rfl) ?_
          refine m_get C w (k := 117) (j := 18) (v := .ref (r (133))) flX12_129 (by decide) rfl rfl dX12_curved_462 ?_
          refine lv_aload_n C.1 C.2.1 dX12_curved_465 rfl (lv_at hl 2 rfl) ?_
          refine m_get C w (k := 117) (j := 21) (v := .ref (r (136))) flX12_138 (by decide) rfl rfl dX12_curved_466 ?_
          refine m_csv C w hl csX12_309 (As := [.ref (r (133)), .ref (r (133)), .ref (r (136))]) (rest := []) (c_X12_added l D b0 r M_34 133 133 136 (by decide) rfl (by decide) (by omega) (by decide) rfl (by decide) (by omega) (by decide) rfl (by decide) (by omega)) rfl rfl (Nat.le_of_ble_eq_true rfl) ⟨Nat.le_of_ble_eq_true rfl, Nat.le_of_ble_eq_true rfl⟩ ⟨Nat.zero_le _, Nat.zero_le _⟩ dX12_curved_469 (fun M_35 H locs eM_35 w => ?_)
          refine lv_aload_n C.1 C.2.1 dX12_curved_472 rfl (lv_at hl 2 rfl) ?_
          refine lv_aload_n C.1 C.2.1 dX12_curved_473 rfl (lv_at hl 2 rfl) ?_
          refine m_get C w (k := 117) (j := 20) (v := .ref (r (135))) flX12_135 (by decide) rfl rfl dX12_curved_474 ?_
          refine lv_aload_n C.1 C.2.1 dX12_curved_477 rfl (lv_at hl 2 rfl) ?_
          refine m_get C w (k := 117) (j := 20) (v := .ref (r (135))) flX12_135 (by decide) rfl rfl dX12_curved_478 ?_
          refine lv_aload_n C.1 C.2.1 dX12_curved_481 rfl (lv_at hl 2 rfl) ?_
          refine m_get C w (k := 117) (j := 18) (v := .ref (r (133))) flX12_129 (by decide) rfl rfl dX12_curved_482 ?_
          refine m_cvv C w hl cvX12_291 (k := 117) (by decide) rfl (q := (RX12, TX12, 58)) rfl rfl (As := [.ref (r (135)), .ref (r (135)), .ref (r (133))]) (rest := []) (c_X12_times l D b0 r M_35 135 135 133 (by decide) rfl (by decide) (by omega) (by decide) rfl (by decide) (by omega) (by decide) rfl (by decide) (by omega)) rfl rfl (Nat.le_of_ble_eq_true rfl) ⟨Nat.le_of_ble_eq_true rfl, Nat.le_of_ble_eq_true rfl⟩ ⟨Nat.zero_le _, Nat.zero_le _⟩ dX12_curved_485 (fun M_36 H locs eM_36 w => ?_)
          refine lv_aload_n C.1 C.2.1 dX12_curved_488 rfl (lv_at hl 2 rfl) ?_
          refine lv_aload_n C.1 C.2.1 dX12_curved_489 rfl (lv_at hl 2 rfl) ?_
          refine m_get C w (k := 117) (j := 18) (v := .ref (r (133))) flX12_129 (by decide) rfl rfl dX12_curved_490 ?_
          refine lv_aload_n C.1 C.2.1 dX12_curved_493 rfl (lv_at hl 2 rfl) ?_
          refine m_get C w (k := 117) (j := 21) (v := .ref (r (136))) flX12_138 (by decide) rfl rfl dX12_curved_494 ?_
          refine lv_aload_n C.1 C.2.1 dX12_curved_497 rfl (lv_at hl 2 rfl) ?_
          refine m_get C w (k := 117) (j := 23) (v := .ref (r (138))) flX12_144 (by decide) rfl rfl dX12_curved_498 ?_
          refine m_cvv C w hl cvX12_291 (k := 117) (by decide) rfl (q := (RX12, TX12, 58)) rfl rfl (As := [.ref (r (133)), .ref (r (136)), .ref (r (138))]) (rest := []) (c_X12_times l D b0 r M_36 133 136 138 (by decide) rfl (by decide) (by omega) (by decide) rfl (by decide) (by omega) (by decide) rfl (by decide) (by omega)) rfl rfl (Nat.le_of_ble_eq_true rfl) ⟨Nat.le_of_ble_eq_true rfl, Nat.le_of_ble_eq_true rfl⟩ ⟨Nat.zero_le _, Nat.zero_le _⟩ dX12_curved_501 (fun M_37 H locs eM_37 w => ?_)
          refine lv_aload_n C.1 C.2.1 dX12_curved_504 rfl (lv_at hl 2 rfl) ?_
          refine lv_aload_n C.1 C.2.1 dX12_curved_505 rfl (lv_at hl 2 rfl) ?_
          refine m_get C w (k := 117) (j := 21) (v := .ref (r (136))) flX12_138 (by decide) rfl rfl dX12_curved_506 ?_
          refine lv_aload_n C.1 C.2.1 dX12_curved_509 rfl (lv_at hl 2 rfl) ?_
          refine m_get C w (k := 117) (j := 19) (v := .ref (r (134))) flX12_132 (by decide) rfl rfl dX12_curved_510 ?_
          refine lv_aload_n C.1 C.2.1 dX12_curved_513 rfl (lv_at hl 2 rfl) ?_
          refine m_get C w (k := 117) (j := 17) (v := .ref (r (132))) flX12_125 (by decide) rfl rfl dX12_curved_514 ?_
          refine m_cvv C w hl cvX12_291 (k := 117) (by decide) rfl (q := (RX12, TX12, 58)) rfl rfl (As := [.ref (r (136)), .ref (r (134)), .ref (r (132))]) (rest := []) (c_X12_times l D b0 r M_37 136 134 132 (by decide) rfl (by decide) (by omega) (by decide) rfl (by decide) (by omega) (by decide) rfl (by decide) (by omega)) rfl rfl (Nat.le_of_ble_eq_true rfl) ⟨Nat.le_of_ble_eq_true rfl, Nat.le_of_ble_eq_true rfl⟩ ⟨Nat.zero_le _, Nat.zero_le _⟩ dX12_curved_517 (fun M_38 H locs eM_38 w => ?_)
          refine lv_aload_n C.1 C.2.1 dX12_curved_520 rfl (lv_at hl 2 rfl) ?_
          refine lv_aload_n C.1 C.2.1 dX12_curved_521 rfl (lv_at hl 2 rfl) ?_
          refine m_get C w (k := 117) (j := 19) (v := .ref (r (134))) flX12_132 (by decide) rfl rfl dX12_curved_522 ?_
          refine lv_aload_n C.1 C.2.1 dX12_curved_525 rfl (lv_at hl 2 rfl) ?_
          refine m_get C w (k := 117) (j := 22) (v := .ref (r (137))) flX12_141 (by decide) rfl rfl dX12_curved_526 ?_
          refine lv_aload_n C.1 C.2.1 dX12_curved_529 rfl (lv_at hl 2 rfl) ?_
          refine m_get C w (k := 117) (j := 22) (v := .ref (r (137))) flX12_141 (by decide) rfl rfl dX12_curved_530 ?_
          refine m_cvv C w hl cvX12_291 (k := 117) (by decide) rfl (q := (RX12, TX12, 58)) rfl rfl (As := [.ref (r (134)), .ref (r (137)), .ref (r (137))]) (rest := []) (c_X12_times l D b0 r M_38 134 137 137 (by decide) rfl (by decide) (by omega) (by decide) rfl (by decide) (by omega) (by decide) rfl (by decide) (by omega)) rfl rfl (Nat.le_of_ble_eq_true rfl) ⟨Nat.le_of_ble_eq_true rfl, Nat.le_of_ble_eq_true rfl⟩ ⟨Nat.zero_le _, Nat.zero_le _⟩ dX12_curved_533 (fun M_39 H locs eM_39 w => ?_)
          refine lv_aload_n C.1 C.2.1 dX12_curved_536 rfl (lv_at hl 2 rfl) ?_
          refine m_get C w (k := 117) (j := 18) (v := .ref (r (133))) flX12_129 (by decide) rfl rfl dX12_curved_537 ?_
          refine lv_aload_n C.1 C.2.1 dX12_curved_540 rfl (lv_at hl 2 rfl) ?_
          refine m_get C w (k := 117) (j := 19) (v := .ref (r (134))) flX12_132 (by decide) rfl rfl dX12_curved_541 ?_
          refine lv_iload C.1 C.2.1 dX12_curved_544 (lv_at hl 0 rfl) ?_
          refine m_csv C w hl csX12_305 (As := [.ref (r (133)), .ref (r (134)), .int (x6_19)]) (rest := []) (c_X12_swapped l D b0 r M_39 133 134 (x6_19) (by decide) rfl (by decide) (by omega) (by decide) rfl (by decide) (by omega)) rfl rfl (Nat.le_of_ble_eq_true rfl) ⟨Nat.le_of_ble_eq_true rfl, Nat.le_of_ble_eq_true rfl⟩ ⟨Nat.zero_le _, Nat.zero_le _⟩ dX12_curved_546 (fun M_40 H locs eM_40 w => ?_)
          refine lv_aload_n C.1 C.2.1 dX12_curved_549 rfl (lv_at hl 2 rfl) ?_
          refine m_get C w (k := 117) (j := 20) (v := .ref (r (135))) flX12_135 (by decide) rfl rfl dX12_curved_550 ?_
          refine lv_aload_n C.1 C.2.1 dX12_curved_553 rfl (lv_at hl 2 rfl) ?_
          refine m_get C w (k := 117) (j := 21) (v := .ref (r (136))) flX12_138 (by decide) rfl rfl dX12_curved_554 ?_
          refine lv_iload C.1 C.2.1 dX12_curved_557 (lv_at hl 0 rfl) ?_
          refine m_csv C w hl csX12_305 (As := [.ref (r (135)), .ref (r (136)), .int (x6_19)]) (rest := []) (c_X12_swapped l D b0 r M_40 135 136 (x6_19) (by decide) rfl (by decide) (by omega) (by decide) rfl (by decide) (by omega)) rfl rfl (Nat.le_of_ble_eq_true rfl) ⟨Nat.le_of_ble_eq_true rfl, Nat.le_of_ble_eq_true rfl⟩ ⟨Nat.zero_le _, Nat.zero_le _⟩ dX12_curved_559 (fun M_41 H locs eM_41 w => ?_)
          refine lv_iinc (v := (nI (255 - (t + 1)) - 1)) (lv' := [(5, .int (nI (255 - (t + 1)) - 1)), (6, .int (x6_19)), (0, .ref (r (117))), (1, .ref (r (k1))), (2, .int (nI (p1))), (3, .ref (r (k2))), (4, .int (nI (p2)))]) C.1 C.2.1 dX12_curved_562 hl (k := 1) rfl (mm_dn2 (by omega)) (by decide) rfl (fun ls hl => ?_)
          refine lv_goto (tgt := 206) C.1 C.2.1 dX12_curved_565 (by decide) ?_
          have h9 : lv_has ls 7 [(5, .int (nI (255 - (t + 1)) - 1)), (0, .ref (r (117))), (1, .ref (r (k1))), (2, .int (nI (p1))), (3, .ref (r (k2))), (4, .int (nI (p2)))] := lv_sub hl [0, 2, 3, 4, 5, 6] rfl
          have hlZ : lv_has ls 7 [(5, .int (nI (255 - (t + 1)) - 1)), (0, .ref (r (117))), (1, .ref (r (k1))), (2, .int (nI (p1))), (3, .ref (r (k2))), (4, .int (nI (p2)))] := h9
          have wZ := w
          subst eM_17 ex6_19 eM_20 eM_21 eM_22 eM_23 eM_24 eM_25 eM_26 eM_27 eM_28 eM_29 eM_30 eM_31 eM_32 eM_33 eM_34 eM_35 eM_36 eM_37 eM_38 eM_39 eM_40 eM_41
          refine ih (t + 1) (by omega) _ _ _ (wZ) ?_
          exact hlZ
      exact loop 255 0 (by omega) _ _ ls w (by have h9 := hl; first | exact h9 | simpa using h9)
    | succ k ih =>
      intro t ht H locs ls w hl
      obtain ⟨M_42, eM_42⟩ : ∃ zz, zz = f_X12_curved_L53 k2 p2 M_3 t := ⟨_, rfl⟩
      rw [← eM_42] at w
      refine lv_iload C.1 C.2.1 dX12_curved_53 (lv_at hl 0 rfl) ?_
      refine lv_bipush (v := 16) C.1 C.2.1 dX12_curved_55 (by decide) ?_
      refine m_icmp_ge (tgt := 147) (a := t) (b := 16) C (by omega) (by omega) dX12_curved_57 (by decide) (fun h_43 => absurd h_43 (by omega)) (fun _ => ?_)
      refine lv_aload_n C.1 C.2.1 dX12_curved_60 rfl (lv_at hl 1 rfl) ?_
      refine m_get C w (k := 117) (j := 17) (v := .ref (r (132))) flX12_125 (by decide) rfl rfl dX12_curved_61 ?_
      refine lv_iload C.1 C.2.1 dX12_curved_64 (lv_at hl 0 rfl) ?_
      refine lv_aload_n C.1 C.2.1 dX12_curved_66 rfl (lv_at hl 4 rfl) ?_
      refine lv_iload C.1 C.2.1 dX12_curved_67 (lv_at hl 5 rfl) ?_
      refine lv_iconst (v := 2) C.1 C.2.1 dX12_curved_69 (by decide) ?_
      refine lv_iload C.1 C.2.1 dX12_curved_70 (lv_at hl 0 rfl) ?_
      refine lv_imul C.1 C.2.1 dX12_curved_72 ?_
      refine m_i (y := nI (2 * t)) (pk_mul 2 t) ?_
      refine lv_iadd C.1 C.2.1 dX12_curved_73 ?_
      refine m_i (y := nI (p2 + (2 * t))) (nI_add p2 (2 * t)) ?_
      refine m_bald C w (k := k2) (i := p2 + (2 * t)) (n := n2) (wr := w2) hk2 hs2 (by omega) hn2 dX12_curved_74 ?_
      refine lv_i2l (v := ((M_42.1 k2 (p2 + (2 * t))) : Int32).toInt64) C.1 C.2.1 dX12_curved_75 rfl ?_
      refine lv_ldc2 (v := (255)) C.1 C.2.1 C.2.2.2.1 (C.2.2.2.2.1 _ klX12_301) dX12_curved_76 ?_
      refine lv_land C.1 C.2.1 dX12_curved_79 ?_
      refine lv_aload_n C.1 C.2.1 dX12_curved_80 rfl (lv_at hl 4 rfl) ?_
      refine lv_iload C.1 C.2.1 dX12_curved_81 (lv_at hl 5 rfl) ?_
      refine lv_iconst (v := 2) C.1 C.2.1 dX12_curved_83 (by decide) ?_
      refine lv_iload C.1 C.2.1 dX12_curved_84 (lv_at hl 0 rfl) ?_
      refine lv_imul C.1 C.2.1 dX12_curved_86 ?_
      refine m_i (y := nI (2 * t)) (pk_mul 2 t) ?_
      refine lv_iadd C.1 C.2.1 dX12_curved_87 ?_
      refine m_i (y := nI (p2 + (2 * t))) (nI_add p2 (2 * t)) ?_
      refine lv_iconst (v := 1) C.1 C.2.1 dX12_curved_88 (by decide) ?_
      refine lv_iadd C.1 C.2.1 dX12_curved_89 ?_
      refine m_i (y := nI (p2 + (2 * t) + 1)) (nI_add (p2 + (2 * t)) 1) ?_
      refine m_bald C w (k := k2) (i := p2 + (2 * t) + 1) (n := n2) (wr := w2) hk2 hs2 (by omega) hn2 dX12_curved_90 ?_
      refine lv_i2l (v := ((M_42.1 k2 (p2 + (2 * t) + 1)) : Int32).toInt64) C.1 C.2.1 dX12_curved_91 rfl ?_
      refine lv_ldc2 (v := (255)) C.1 C.2.1 C.2.2.2.1 (C.2.2.2.2.1 _ klX12_301) dX12_curved_92 ?_
      refine lv_land C.1 C.2.1 dX12_curved_95 ?_
      refine lv_bipush (v := 8) C.1 C.2.1 dX12_curved_96 (by decide) ?_
      refine lv_lshl (v := ((((M_42.1 k2 (p2 + (2 * t) + 1)) : Int32).toInt64) &&& (255)) <<< (((8 : Int32)).toInt64 &&& 63)) C.1 C.2.1 dX12_curved_98 rfl ?_
      refine lv_ladd C.1 C.2.1 dX12_curved_99 ?_
      refine m_last C w (k := 132) (i := t) (n := 16) (x := (((((M_42.1 k2 (p2 + (2 * t))) : Int32).toInt64) &&& (255)) + (((((M_42.1 k2 (p2 + (2 * t) + 1)) : Int32).toInt64) &&& (255)) <<< (((8 : Int32)).toInt64 &&& 63)))) (by decide) rfl (by omega) (by decide) dX12_curved_100 (fun H locs w => ?_)
      obtain ⟨M_44, eM_44⟩ : ∃ zz, zz = mm_wl M_42 132 t (((((M_42.1 k2 (p2 + (2 * t))) : Int32).toInt64) &&& (255)) + (((((M_42.1 k2 (p2 + (2 * t) + 1)) : Int32).toInt64) &&& (255)) <<< (((8 : Int32)).toInt64 &&& 63))) := ⟨_, rfl⟩
      rw [← eM_44] at w
      refine lv_aload_n C.1 C.2.1 dX12_curved_101 rfl (lv_at hl 1 rfl) ?_
      refine m_get C w (k := 117) (j := 19) (v := .ref (r (134))) flX12_132 (by decide) rfl rfl dX12_curved_102 ?_
      refine lv_iload C.1 C.2.1 dX12_curved_105 (lv_at hl 0 rfl) ?_
      refine lv_lconst (v := 0) C.1 C.2.1 dX12_curved_107 (by decide) ?_
      refine m_last C w (k := 134) (i := t) (n := 16) (x := (0)) (by decide) rfl (by omega) (by decide) dX12_curved_108 (fun H locs w => ?_)
      obtain ⟨M_45, eM_45⟩ : ∃ zz, zz = mm_wl M_44 134 t (0) := ⟨_, rfl⟩
      rw [← eM_45] at w
      refine lv_aload_n C.1 C.2.1 dX12_curved_109 rfl (lv_at hl 1 rfl) ?_
      refine m_get C w (k := 117) (j := 18) (v := .ref (r (133))) flX12_129 (by decide) rfl rfl dX12_curved_110 ?_
      refine lv_iload C.1 C.2.1 dX12_curved_113 (lv_at hl 0 rfl) ?_
      refine lv_lconst (v := 0) C.1 C.2.1 dX12_curved_115 (by decide) ?_
      refine m_last C w (k := 133) (i := t) (n := 16) (x := (0)) (by decide) rfl (by omega) (by decide) dX12_curved_116 (fun H locs w => ?_)
      obtain ⟨M_46, eM_46⟩ : ∃ zz, zz = mm_wl M_45 133 t (0) := ⟨_, rfl⟩
      rw [← eM_46] at w
      refine lv_aload_n C.1 C.2.1 dX12_curved_117 rfl (lv_at hl 1 rfl) ?_
      refine m_get C w (k := 117) (j := 20) (v := .ref (r (135))) flX12_135 (by decide) rfl rfl dX12_curved_118 ?_
      refine lv_iload C.1 C.2.1 dX12_curved_121 (lv_at hl 0 rfl) ?_
      refine lv_lconst (v := 0) C.1 C.2.1 dX12_curved_123 (by decide) ?_
      refine m_last C w (k := 135) (i := t) (n := 16) (x := (0)) (by decide) rfl (by omega) (by decide) dX12_curved_124 (fun H locs w => ?_)
      obtain ⟨M_47, eM_47⟩ : ∃ zz, zz = mm_wl M_46 135 t (0) := ⟨_, rfl⟩
      rw [← eM_47] at w
      refine lv_aload_n C.1 C.2.1 dX12_curved_125 rfl (lv_at hl 1 rfl) ?_
      refine m_get C w (k := 117) (j := 21) (v := .ref (r (136))) flX12_138 (by decide) rfl rfl dX12_curved_126 ?_
      refine lv_iload C.1 C.2.1 dX12_curved_129 (lv_at hl 0 rfl) ?_
      refine lv_lconst (v := 0) C.1 C.2.1 dX12_curved_131 (by decide) ?_
      refine m_last C w (k := 136) (i := t) (n := 16) (x := (0)) (by decide) rfl (by omega) (by decide) dX12_curved_132 (fun H locs w => ?_)
      obtain ⟨M_48, eM_48⟩ : ∃ zz, zz = mm_wl M_47 136 t (0) := ⟨_, rfl⟩
      rw [← eM_48] at w
      refine lv_aload_n C.1 C.2.1 dX12_curved_133 rfl (lv_at hl 1 rfl) ?_
      refine m_get C w (k := 117) (j := 25) (v := .ref (r (140))) flX12_150 (by decide) rfl rfl dX12_curved_134 ?_
      refine lv_iload C.1 C.2.1 dX12_curved_137 (lv_at hl 0 rfl) ?_
      refine lv_lconst (v := 0) C.1 C.2.1 dX12_curved_139 (by decide) ?_
      refine m_last C w (k := 140) (i := t) (n := 16) (x := (0)) (by decide) rfl (by omega) (by decide) dX12_curved_140 (fun H locs w => ?_)
      obtain ⟨M_49, eM_49⟩ : ∃ zz, zz = mm_wl M_48 140 t (0) := ⟨_, rfl⟩
      rw [← eM_49] at w
      refine lv_iinc (v := (nI (t + 1))) (lv' := [(5, .int (nI (t + 1))), (0, .ref (r (117))), (1, .ref (r (k1))), (2, .int (nI (p1))), (3, .ref (r (k2))), (4, .int (nI (p2)))]) C.1 C.2.1 dX12_curved_141 hl (k := 0) rfl (nI_add t 1) (by decide) rfl (fun ls hl => ?_)
      refine lv_goto (tgt := 53) C.1 C.2.1 dX12_curved_144 (by decide) ?_
      have h9 : lv_has ls 7 [(5, .int (nI (t + 1))), (0, .ref (r (117))), (1, .ref (r (k1))), (2, .int (nI (p1))), (3, .ref (r (k2))), (4, .int (nI (p2)))] := lv_sub hl [0, 1, 2, 3, 4, 5] rfl
      have hlZ : lv_has ls 7 [(5, .int (nI (t + 1))), (0, .ref (r (117))), (1, .ref (r (k1))), (2, .int (nI (p1))), (3, .ref (r (k2))), (4, .int (nI (p2)))] := h9
      have wZ := w
      subst eM_42 eM_44 eM_45 eM_46 eM_47 eM_48 eM_49
      refine ih (t + 1) (by omega) _ _ _ (wZ) ?_
      exact hlZ
  exact loop 16 0 (by omega) _ _ ls w hl

def f_X12_curvedOwn (k1 : Nat) (p1 : Nat) (M : mm_M) : mm_M :=
  let M_1 := mm_w M 146 0 (9 : Int32)
  let M_2 := f_X12_curved k1 p1 146 0 M_1
  M_2
theorem w_f_X12_curvedOwn (k1 : Nat) (p1 : Nat) (M : mm_M) : mm_fr [146, 144, 132, 134, 133, 136, 140, 142, 135, 143, 139, 145, 141, 137, 138] M (f_X12_curvedOwn k1 p1 M) := by
  unfold f_X12_curvedOwn
  exact ((w_f_X12_curved _ _ _ _ _).on (by simp) (mm_fr_w (by simp) (mm_fr_refl _ _)))
set_option maxHeartbeats 4000000 in
set_option maxRecDepth 100000 in
theorem c_X12_curvedOwn (l : Launch) (D : va_G) (b0 : Nat) (r : Nat → Nat) (M : mm_M) (k1 : Nat) (p1 : Nat) {n1 : Nat} {w1 : Bool} (hk1 : k1 < 181) (hs1 : mm_sh k1 = .inl (.byte, n1, w1)) (hn1 : n1 < 2 ^ 31) (hp1 : p1 + 32 ≤ n1) (hq1 : n1 < 2 ^ 30) : mm_Mv l yX12_curvedOwn cX12_curvedOwn 3 4 97 D b0 r [.ref (r (117)), .ref (r (k1)), .int (nI (p1))] M (fun M' => M' = f_X12_curvedOwn k1 p1 M) := by
  refine mm_enter (cc := cX12_curvedOwn) (nL := 3) (ret := none) (by decide) (Nat.le_of_ble_eq_true rfl) ?_
  intro p e s m args below meth c C w ls hl
  have hl : lv_has ls 3 [(0, .ref (r (117))), (1, .ref (r (k1))), (2, .int (nI (p1)))] := hl
  refine lv_aload_n C.1 C.2.1 dX12_curvedOwn_0 rfl (lv_at hl 0 rfl) ?_
  refine m_get C w (k := 117) (j := 31) (v := .ref (r (146))) flX12_168 (by decide) rfl rfl dX12_curvedOwn_1 ?_
  refine lv_iconst (v := 0) C.1 C.2.1 dX12_curvedOwn_4 (by decide) ?_
  refine lv_bipush (v := 9) C.1 C.2.1 dX12_curvedOwn_5 (by decide) ?_
  refine m_bast C w (k := 146) (i := 0) (n := 32) (x := (9 : Int32)) (by decide) rfl (by omega) (by decide) (by decide) dX12_curvedOwn_7 (fun H locs w => ?_)
  obtain ⟨M_1, eM_1⟩ : ∃ zz, zz = mm_w M 146 0 (9 : Int32) := ⟨_, rfl⟩
  rw [← eM_1] at w
  refine lv_aload_n C.1 C.2.1 dX12_curvedOwn_8 rfl (lv_at hl 0 rfl) ?_
  refine lv_aload_n C.1 C.2.1 dX12_curvedOwn_9 rfl (lv_at hl 1 rfl) ?_
  refine lv_iload_n C.1 C.2.1 dX12_curvedOwn_10 rfl (lv_at hl 2 rfl) ?_
  refine lv_aload_n C.1 C.2.1 dX12_curvedOwn_11 rfl (lv_at hl 0 rfl) ?_
  refine m_get C w (k := 117) (j := 31) (v := .ref (r (146))) flX12_168 (by decide) rfl rfl dX12_curvedOwn_12 ?_
  refine lv_iconst (v := 0) C.1 C.2.1 dX12_curvedOwn_15 (by decide) ?_
  refine m_cvv C w hl cvX12_322 (k := 117) (by decide) rfl (q := (RX12, TX12, 58)) rfl rfl (As := [.ref (r (k1)), .int (nI (p1)), .ref (r (146)), .int 0]) (rest := []) (c_X12_curved l D b0 r M_1 k1 p1 146 0 hk1 hs1 hn1 (by omega) (by omega) (by decide) rfl (by decide) (by omega) (by omega)) rfl rfl (Nat.le_of_ble_eq_true rfl) ⟨Nat.le_of_ble_eq_true rfl, Nat.le_of_ble_eq_true rfl⟩ ⟨Nat.zero_le _, Nat.zero_le _⟩ dX12_curvedOwn_16 (fun M_2 H locs eM_2 w => ?_)
  exact m_vret C w (by subst eM_1 eM_2; exact Eq.symm (rfl)) dX12_curvedOwn_19
