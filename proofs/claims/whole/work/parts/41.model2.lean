/-- the size behind the padding's zeros -/
def sm_p (q : Nat) : Nat := q + 1 + (119 - q % 64) % 64
theorem sm_pf (q : Nat) : sm_p q % 64 = 56 ∧ q + 1 ≤ sm_p q ∧ sm_p q ≤ q + 64 := by unfold sm_p; omega
theorem sm_pn (q t : Nat) (h : t < sm_p q - (q + 1)) : (q + 1 + t) % 64 ≠ 56 := by unfold sm_p at h; omega

def f_X12_sums_L122  (σ : mm_M) : Nat → mm_M
  | 0 => σ
  | t + 1 =>
  let M_14 := f_X12_sums_L122 σ t
  let M_16 := mm_w M_14 129 t (mm_b ((M_14.1 126 (t / 4)) >>> ((nI (24 - (8 * (t % 4)))) &&& 31)))
  M_16
theorem w_f_X12_sums_L122  (σ : mm_M) : ∀ t : Nat, mm_fr [129] σ (f_X12_sums_L122 σ t)
  | 0 => mm_fr_refl _ _
  | t + 1 => have ih := w_f_X12_sums_L122 σ t
    (mm_fr_w (by simp) ih)
def f_X12_sums_L101  (σ : mm_M) : Nat → mm_M
  | 0 => σ
  | t + 1 =>
  let M_17 := f_X12_sums_L101 σ t
  let M_19 := f_X12_block (t * 64) M_17
  M_19
theorem w_f_X12_sums_L101  (σ : mm_M) : ∀ t : Nat, mm_fr [126, 127, 125] σ (f_X12_sums_L101 σ t)
  | 0 => mm_fr_refl _ _
  | t + 1 => have ih := w_f_X12_sums_L101 σ t
    ((w_f_X12_block _ _).on (by simp) ih)
def f_X12_sums_L75  (σ : mm_M) : Nat → mm_M
  | 0 => σ
  | t + 1 =>
  let M_20 := f_X12_sums_L75 σ t
  let M_22 := mm_w M_20 126 t (M_20.1 124 t)
  M_22
theorem w_f_X12_sums_L75  (σ : mm_M) : ∀ t : Nat, mm_fr [126] σ (f_X12_sums_L75 σ t)
  | 0 => mm_fr_refl _ _
  | t + 1 => have ih := w_f_X12_sums_L75 σ t
    (mm_fr_w (by simp) ih)
def f_X12_sums_L56 (q : Nat) (σ : mm_M) : Nat → mm_M
  | 0 => σ
  | t + 1 =>
  let M_23 := f_X12_sums_L56 q σ t
  let M_25 := f_X12_put ((nI (8 * q)) >>> ((nI (24 - 8 * t)) &&& 31)) (sm_p q + 4 + t) M_23
  M_25
theorem w_f_X12_sums_L56 (q : Nat) (σ : mm_M) : ∀ t : Nat, mm_fr [128, 117] σ (f_X12_sums_L56 q σ t)
  | 0 => mm_fr_refl _ _
  | t + 1 => have ih := w_f_X12_sums_L56 q σ t
    ((w_f_X12_put _ _ _).on (by simp) ih)
def f_X12_sums_L37 (q : Nat) (σ : mm_M) : Nat → mm_M
  | 0 => σ
  | t + 1 =>
  let M_26 := f_X12_sums_L37 q σ t
  let M_28 := f_X12_put (0 : Int32) (sm_p q + t) M_26
  M_28
theorem w_f_X12_sums_L37 (q : Nat) (σ : mm_M) : ∀ t : Nat, mm_fr [128, 117] σ (f_X12_sums_L37 q σ t)
  | 0 => mm_fr_refl _ _
  | t + 1 => have ih := w_f_X12_sums_L37 q σ t
    ((w_f_X12_put _ _ _).on (by simp) ih)
def f_X12_sums_L15 (q : Nat) (σ : mm_M) : Nat → mm_M
  | 0 => σ
  | t + 1 =>
  let M_29 := f_X12_sums_L15 q σ t
  let M_31 := f_X12_put (0 : Int32) (q + 1 + t) M_29
  M_31
theorem w_f_X12_sums_L15 (q : Nat) (σ : mm_M) : ∀ t : Nat, mm_fr [128, 117] σ (f_X12_sums_L15 q σ t)
  | 0 => mm_fr_refl _ _
  | t + 1 => have ih := w_f_X12_sums_L15 q σ t
    ((w_f_X12_put _ _ _).on (by simp) ih)
def f_X12_sums (q : Nat) (M : mm_M) : mm_M :=
  let M_1 := f_X12_put (128 : Int32) q M
  let M_2 := f_X12_sums_L15 q M_1 (sm_p q - (q + 1))
  let M_4 := f_X12_sums_L37 q M_2 4
  let M_6 := f_X12_sums_L56 q M_4 4
  let M_8 := f_X12_sums_L75 M_6 8
  let M_10 := f_X12_sums_L101 M_8 ((sm_p q + 4 + 4) / 64)
  let M_12 := f_X12_sums_L122 M_10 32
  M_12
theorem w_f_X12_sums (q : Nat) (M : mm_M) : mm_fr [128, 117, 129, 126, 127, 125] M (f_X12_sums q M) := by
  unfold f_X12_sums
  exact ((w_f_X12_sums_L122 _ 32).on (by simp) ((w_f_X12_sums_L101 _ ((sm_p q + 4 + 4) / 64)).on (by simp) ((w_f_X12_sums_L75 _ 8).on (by simp) ((w_f_X12_sums_L56 _ _ 4).on (by simp) ((w_f_X12_sums_L37 _ _ 4).on (by simp) ((w_f_X12_sums_L15 _ _ (sm_p q - (q + 1))).on (by simp) ((w_f_X12_put _ _ _).on (by simp) (mm_fr_refl _ _))))))))
theorem i_sm1 (q : Nat) (σ : mm_M) (h : σ.1 117 14 = nI (q + 1)) : ∀ t, (f_X12_sums_L15 q σ t).1 117 14 = nI (q + 1 + t)
  | 0 => h
  | t + 1 => r_X12_put _ _ _
theorem i_sm2 (q : Nat) (σ : mm_M) (h : σ.1 117 14 = nI (sm_p q)) : ∀ t, (f_X12_sums_L37 q σ t).1 117 14 = nI (sm_p q + t)
  | 0 => h
  | t + 1 => r_X12_put _ _ _
theorem i_sm3 (q : Nat) (σ : mm_M) (h : σ.1 117 14 = nI (sm_p q + 4)) : ∀ t, (f_X12_sums_L56 q σ t).1 117 14 = nI (sm_p q + 4 + t)
  | 0 => h
  | t + 1 => r_X12_put _ _ _

set_option maxHeartbeats 4000000 in
set_option maxRecDepth 100000 in
theorem c_X12_sums (l : Launch) (D : va_G) (b0 : Nat) (r : Nat → Nat) (M : mm_M) (q : Nat) (hq : q ≤ 1200) (h0 : M.1 117 14 = nI q) : mm_Mv l yX12_sums cX12_sums 3 2 46 D b0 r [.ref (r (117))] M (fun M' => M' = f_X12_sums q M) := by
  refine mm_enter (cc := cX12_sums) (nL := 3) (ret := none) (by decide) (Nat.le_of_ble_eq_true rfl) ?_
  intro p e s m args below meth c C w ls hl
  have hl : lv_has ls 3 [(0, .ref (r (117)))] := hl
  have hsp := sm_pf q
  refine lv_bipush (v := 8) C.1 C.2.1 dX12_sums_0 (by decide) ?_
  refine lv_aload_n C.1 C.2.1 dX12_sums_2 rfl (lv_at hl 0 rfl) ?_
  refine m_get C w (k := 117) (j := 14) (v := .int (M.1 117 14)) flX12_250 (by decide) rfl rfl dX12_sums_3 ?_
  refine m_i (y := nI (q)) h0 ?_
  refine lv_imul C.1 C.2.1 dX12_sums_6 ?_
  refine m_i (y := nI (8 * q)) (pk_mul 8 q) ?_
  refine lv_istore_n (lv' := [(1, .int (nI (8 * q))), (0, .ref (r (117)))]) C.1 C.2.1 dX12_sums_7 rfl hl (by decide) rfl (fun ls hl => ?_)
  refine lv_aload_n C.1 C.2.1 dX12_sums_8 rfl (lv_at hl 1 rfl) ?_
  refine lv_sipush (v := 128) C.1 C.2.1 dX12_sums_9 (by decide) ?_
  refine m_cvv C w hl cvX12_254 (k := 117) (by decide) rfl (q := (RX12, TX12, 58)) rfl rfl (As := [.int 128]) (rest := []) (c_X12_put l D b0 r M (128 : Int32) q (by omega) h0) rfl rfl (Nat.le_of_ble_eq_true rfl) ⟨Nat.le_of_ble_eq_true rfl, Nat.le_of_ble_eq_true rfl⟩ ⟨Nat.zero_le _, Nat.zero_le _⟩ dX12_sums_12 (fun M_1 H locs eM_1 w => ?_)
  have loop : ∀ (k t : Nat), t + k = sm_p q - (q + 1) → ∀ (H : Heap) (locs : List Loc) (ls : Array Slot), mm_W D b0 r (f_X12_sums_L15 q M_1 t) s H locs → lv_has ls 3 [(1, .int (nI (8 * q))), (0, .ref (r (117)))] → W p l e (mm_rm 2 46) s m args below meth c H locs 0 0 (MQ below (va_Qv (fun M' => M' = f_X12_sums q M) (mm_U D b0 r) (fun q => b0 ≤ q)) args s 0 0 (fun q => b0 ≤ q)) (F0 m 15 ls []) := by
    intro k
    induction k with
    | zero =>
      intro t ht H locs ls w hl
      obtain rfl : sm_p q - (q + 1) = t := by omega
      obtain ⟨M_2, eM_2⟩ : ∃ zz, zz = f_X12_sums_L15 q M_1 (sm_p q - (q + 1)) := ⟨_, rfl⟩
      rw [← eM_2] at w
      refine lv_aload_n C.1 C.2.1 dX12_sums_15 rfl (lv_at hl 1 rfl) ?_
      refine m_get C w (k := 117) (j := 14) (v := .int (M_2.1 117 14)) flX12_250 (by decide) rfl rfl dX12_sums_16 ?_
      refine m_i (y := nI (q + 1 + (sm_p q - (q + 1)))) (by rw [eM_2]; exact i_sm1 q _ (by rw [eM_1]; exact r_X12_put _ _ _) _) ?_
      refine lv_bipush (v := 64) C.1 C.2.1 dX12_sums_19 (by decide) ?_
      refine lv_irem C.1 C.2.1 dX12_sums_21 (by decide) ?_
      refine m_i (y := nI ((q + 1 + (sm_p q - (q + 1))) % 64)) (pk_rem (a := q + 1 + (sm_p q - (q + 1))) (d := 64) (by omega) (by omega) (by omega)) ?_
      refine lv_bipush (v := 56) C.1 C.2.1 dX12_sums_22 (by decide) ?_
      refine m_icmp_eq (tgt := 35) (a := (q + 1 + (sm_p q - (q + 1))) % 64) (b := 56) C (by omega) (by omega) dX12_sums_24 (by decide) (fun _ => ?_) (fun h_3 => absurd h_3 (by omega))
      refine lv_iconst (v := 0) C.1 C.2.1 dX12_sums_35 (by decide) ?_
      refine lv_istore_n (lv' := [(2, .int 0), (1, .int (nI (8 * q))), (0, .ref (r (117)))]) C.1 C.2.1 dX12_sums_36 rfl hl (by decide) rfl (fun ls hl => ?_)
      have loop : ∀ (k t : Nat), t + k = 4 → ∀ (H : Heap) (locs : List Loc) (ls : Array Slot), mm_W D b0 r (f_X12_sums_L37 q M_2 t) s H locs → lv_has ls 3 [(2, .int (nI (t))), (1, .int (nI (8 * q))), (0, .ref (r (117)))] → W p l e (mm_rm 2 46) s m args below meth c H locs 0 0 (MQ below (va_Qv (fun M' => M' = f_X12_sums q M) (mm_U D b0 r) (fun q => b0 ≤ q)) args s 0 0 (fun q => b0 ≤ q)) (F0 m 37 ls []) := by
        intro k
        induction k with
        | zero =>
          intro t ht H locs ls w hl
          obtain rfl : 4 = t := by omega
          obtain ⟨M_4, eM_4⟩ : ∃ zz, zz = f_X12_sums_L37 q M_2 4 := ⟨_, rfl⟩
          rw [← eM_4] at w
          refine lv_iload_n C.1 C.2.1 dX12_sums_37 rfl (lv_at hl 0 rfl) ?_
          refine lv_iconst (v := 4) C.1 C.2.1 dX12_sums_38 (by decide) ?_
          refine m_icmp_ge (tgt := 53) (a := 4) (b := 4) C (by omega) (by omega) dX12_sums_39 (by decide) (fun _ => ?_) (fun h_5 => absurd h_5 (by omega))
          refine lv_bipush (v := 24) C.1 C.2.1 dX12_sums_53 (by decide) ?_
          refine lv_istore_n (lv' := [(2, .int 24), (1, .int (nI (8 * q))), (0, .ref (r (117)))]) C.1 C.2.1 dX12_sums_55 rfl hl (by decide) rfl (fun ls hl => ?_)
          have loop : ∀ (k t : Nat), t + k = 4 → ∀ (H : Heap) (locs : List Loc) (ls : Array Slot), mm_W D b0 r (f_X12_sums_L56 q M_4 t) s H locs → lv_has ls 3 [(2, .int (nI (32 - 8 * t) - 8)), (1, .int (nI (8 * q))), (0, .ref (r (117)))] → W p l e (mm_rm 2 46) s m args below meth c H locs 0 0 (MQ below (va_Qv (fun M' => M' = f_X12_sums q M) (mm_U D b0 r) (fun q => b0 ≤ q)) args s 0 0 (fun q => b0 ≤ q)) (F0 m 56 ls []) := by
            intro k
            induction k with
            | zero =>
              intro t ht H locs ls w hl
              obtain rfl : 4 = t := by omega
              obtain ⟨M_6, eM_6⟩ : ∃ zz, zz = f_X12_sums_L56 q M_4 4 := ⟨_, rfl⟩
              rw [← eM_6] at w
              refine lv_iload_n C.1 C.2.1 dX12_sums_56 rfl (lv_at hl 0 rfl) ?_
              refine lv_if_lt (tgt := 73) C.1 C.2.1 dX12_sums_57 (by decide) (fun _ => ?_) (fun h_7 => absurd h_7 (fun q => q (mm_neg8 (by omega))))
              refine lv_iconst (v := 0) C.1 C.2.1 dX12_sums_73 (by decide) ?_
              refine lv_istore_n (lv' := [(2, .int 0), (1, .int (nI (8 * q))), (0, .ref (r (117)))]) C.1 C.2.1 dX12_sums_74 rfl hl (by decide) rfl (fun ls hl => ?_)
              have loop : ∀ (k t : Nat), t + k = 8 → ∀ (H : Heap) (locs : List Loc) (ls : Array Slot), mm_W D b0 r (f_X12_sums_L75 M_6 t) s H locs → lv_has ls 3 [(2, .int (nI (t))), (1, .int (nI (8 * q))), (0, .ref (r (117)))] → W p l e (mm_rm 2 46) s m args below meth c H locs 0 0 (MQ below (va_Qv (fun M' => M' = f_X12_sums q M) (mm_U D b0 r) (fun q => b0 ≤ q)) args s 0 0 (fun q => b0 ≤ q)) (F0 m 75 ls []) := by
                intro k
                induction k with
                | zero =>
                  intro t ht H locs ls w hl
                  obtain rfl : 8 = t := by omega
                  obtain ⟨M_8, eM_8⟩ : ∃ zz, zz = f_X12_sums_L75 M_6 8 := ⟨_, rfl⟩
                  rw [← eM_8] at w
                  refine lv_iload_n C.1 C.2.1 dX12_sums_75 rfl (lv_at hl 0 rfl) ?_
                  refine lv_bipush (v := 8) C.1 C.2.1 dX12_sums_76 (by decide) ?_
                  refine m_icmp_ge (tgt := 99) (a := 8) (b := 8) C (by omega) (by omega) dX12_sums_78 (by decide) (fun _ => ?_) (fun h_9 => absurd h_9 (by omega))
                  refine lv_iconst (v := 0) C.1 C.2.1 dX12_sums_99 (by decide) ?_
                  refine lv_istore_n (lv' := [(2, .int 0), (1, .int (nI (8 * q))), (0, .ref (r (117)))]) C.1 C.2.1 dX12_sums_100 rfl hl (by decide) rfl (fun ls hl => ?_)
                  have loop : ∀ (k t : Nat), t + k = (sm_p q + 4 + 4) / 64 → ∀ (H : Heap) (locs : List Loc) (ls : Array Slot), mm_W D b0 r (f_X12_sums_L101 M_8 t) s H locs → lv_has ls 3 [(2, .int (nI (t * 64))), (1, .int (nI (8 * q))), (0, .ref (r (117)))] → W p l e (mm_rm 2 46) s m args below meth c H locs 0 0 (MQ below (va_Qv (fun M' => M' = f_X12_sums q M) (mm_U D b0 r) (fun q => b0 ≤ q)) args s 0 0 (fun q => b0 ≤ q)) (F0 m 101 ls []) := by
                    intro k
                    induction k with
                    | zero =>
                      intro t ht H locs ls w hl
                      obtain rfl : (sm_p q + 4 + 4) / 64 = t := by omega
                      obtain ⟨M_10, eM_10⟩ : ∃ zz, zz = f_X12_sums_L101 M_8 ((sm_p q + 4 + 4) / 64) := ⟨_, rfl⟩
                      rw [← eM_10] at w
                      refine lv_iload_n C.1 C.2.1 dX12_sums_101 rfl (lv_at hl 0 rfl) ?_
                      refine lv_aload_n C.1 C.2.1 dX12_sums_102 rfl (lv_at hl 2 rfl) ?_
                      refine m_get C w (k := 117) (j := 14) (v := .int (M_10.1 117 14)) flX12_250 (by decide) rfl rfl dX12_sums_103 ?_
                      refine m_i (y := nI (sm_p q + 4 + 4)) (by rw [eM_10, ((w_f_X12_sums_L101 _ _) 117 (by simp)).1, eM_8, ((w_f_X12_sums_L75 _ _) 117 (by simp)).1]; exact (by rw [eM_6, i_sm3 q _ (by rw [eM_4, i_sm2 q _ (by rw [eM_2, i_sm1 q _ (by rw [eM_1]; exact r_X12_put _ _ _)]; congr 1; omega)])])) ?_
                      refine m_icmp_ge (tgt := 120) (a := ((sm_p q + 4 + 4) / 64) * 64) (b := sm_p q + 4 + 4) C (by omega) (by omega) dX12_sums_106 (by decide) (fun _ => ?_) (fun h_11 => absurd h_11 (by omega))
                      refine lv_iconst (v := 0) C.1 C.2.1 dX12_sums_120 (by decide) ?_
                      refine lv_istore_n (lv' := [(2, .int 0), (1, .int (nI (8 * q))), (0, .ref (r (117)))]) C.1 C.2.1 dX12_sums_121 rfl hl (by decide) rfl (fun ls hl => ?_)
                      have loop : ∀ (k t : Nat), t + k = 32 → ∀ (H : Heap) (locs : List Loc) (ls : Array Slot), mm_W D b0 r (f_X12_sums_L122 M_10 t) s H locs → lv_has ls 3 [(2, .int (nI (t))), (1, .int (nI (8 * q))), (0, .ref (r (117)))] → W p l e (mm_rm 2 46) s m args below meth c H locs 0 0 (MQ below (va_Qv (fun M' => M' = f_X12_sums q M) (mm_U D b0 r) (fun q => b0 ≤ q)) args s 0 0 (fun q => b0 ≤ q)) (F0 m 122 ls []) := by
                        intro k
                        induction k with
                        | zero =>
                          intro t ht H locs ls w hl
                          obtain rfl : 32 = t := by omega
                          obtain ⟨M_12, eM_12⟩ : ∃ zz, zz = f_X12_sums_L122 M_10 32 := ⟨_, rfl⟩
                          rw [← eM_12] at w
                          refine lv_iload_n C.1 C.2.1 dX12_sums_122 rfl (lv_at hl 0 rfl) ?_
                          refine lv_bipush (v := 32) C.1 C.2.1 dX12_sums_123 (by decide) ?_
                          refine m_icmp_ge (tgt := 159) (a := 32) (b := 32) C (by omega) (by omega) dX12_sums_125 (by decide) (fun _ => ?_) (fun h_13 => absurd h_13 (by omega))
                          exact m_vret C w (by subst eM_1 eM_2 eM_4 eM_6 eM_8 eM_10 eM_12; exact Eq.symm (rfl)) dX12_sums_159
                        | succ k ih =>
                          intro t ht H locs ls w hl
                          obtain ⟨M_14, eM_14⟩ : ∃ zz, zz = f_X12_sums_L122 M_10 t := ⟨_, rfl⟩
                          rw [← eM_14] at w
                          refine lv_iload_n C.1 C.2.1 dX12_sums_122 rfl (lv_at hl 0 rfl) ?_
                          refine lv_bipush (v := 32) C.1 C.2.1 dX12_sums_123 (by decide) ?_
                          refine m_icmp_ge (tgt := 159) (a := t) (b := 32) C (by omega) (by omega) dX12_sums_125 (by decide) (fun h_15 => absurd h_15 (by omega)) (fun _ => ?_)
                          refine lv_aload_n C.1 C.2.1 dX12_sums_128 rfl (lv_at hl 2 rfl) ?_
                          refine m_get C w (k := 117) (j := 13) (v := .ref (r (129))) flX12_116 (by decide) rfl rfl dX12_sums_129 ?_
                          refine lv_iload_n C.1 C.2.1 dX12_sums_132 rfl (lv_at hl 0 rfl) ?_
                          refine lv_aload_n C.1 C.2.1 dX12_sums_133 rfl (lv_at hl 2 rfl) ?_
                          refine m_get C w (k := 117) (j := 10) (v := .ref (r (126))) flX12_107 (by decide) rfl rfl dX12_sums_134 ?_
                          refine lv_iload_n C.1 C.2.1 dX12_sums_137 rfl (lv_at hl 0 rfl) ?_
                          refine lv_iconst (v := 4) C.1 C.2.1 dX12_sums_138 (by decide) ?_
                          refine lv_idiv C.1 C.2.1 dX12_sums_139 (by decide) ?_
                          refine m_i (y := nI (t / 4)) (pk_div (a := t) (d := 4) (by omega) (by omega) (by omega)) ?_
                          refine m_iald C w (k := 126) (i := t / 4) (n := 8) (wr := true) (by decide) rfl (by omega) (by decide) dX12_sums_140 ?_
                          refine lv_bipush (v := 24) C.1 C.2.1 dX12_sums_141 (by decide) ?_
                          refine lv_bipush (v := 8) C.1 C.2.1 dX12_sums_143 (by decide) ?_
                          refine lv_iload_n C.1 C.2.1 dX12_sums_145 rfl (lv_at hl 0 rfl) ?_
                          refine lv_iconst (v := 4) C.1 C.2.1 dX12_sums_146 (by decide) ?_
                          refine lv_irem C.1 C.2.1 dX12_sums_147 (by decide) ?_
                          refine m_i (y := nI (t % 4)) (pk_rem (a := t) (d := 4) (by omega) (by omega) (by omega)) ?_
                          refine lv_imul C.1 C.2.1 dX12_sums_148 ?_
                          refine m_i (y := nI (8 * (t % 4))) (pk_mul 8 (t % 4)) ?_
                          refine lv_isub C.1 C.2.1 dX12_sums_149 ?_
                          refine m_i (y := nI (24 - (8 * (t % 4)))) (pk_sub (a := 24) (b := 8 * (t % 4)) (by omega)) ?_
                          refine lv_ishr C.1 C.2.1 dX12_sums_150 ?_
                          refine lv_i2b (v := mm_b ((M_14.1 126 (t / 4)) >>> ((nI (24 - (8 * (t % 4)))) &&& 31))) C.1 C.2.1 dX12_sums_151 rfl ?_
                          refine m_bast C w (k := 129) (i := t) (n := 32) (x := (mm_b ((M_14.1 126 (t / 4)) >>> ((nI (24 - (8 * (t % 4)))) &&& 31)))) (by decide) rfl (by omega) (by decide) (mm_bb _) dX12_sums_152 (fun H locs w => ?_)
                          obtain ⟨M_16, eM_16⟩ : ∃ zz, zz = mm_w M_14 129 t (mm_b ((M_14.1 126 (t / 4)) >>> ((nI (24 - (8 * (t % 4)))) &&& 31))) := ⟨_, rfl⟩
                          rw [← eM_16] at w
                          refine lv_iinc (v := (nI (t + 1))) (lv' := [(2, .int (nI (t + 1))), (1, .int (nI (8 * q))), (0, .ref (r (117)))]) C.1 C.2.1 dX12_sums_153 hl (k := 0) rfl (nI_add t 1) (by decide) rfl (fun ls hl => ?_)
                          refine lv_goto (tgt := 122) C.1 C.2.1 dX12_sums_156 (by decide) ?_
                          have h9 : lv_has ls 3 [(2, .int (nI (t + 1))), (1, .int (nI (8 * q))), (0, .ref (r (117)))] := lv_sub hl [0, 1, 2] rfl
                          have hlZ : lv_has ls 3 [(2, .int (nI (t + 1))), (1, .int (nI (8 * q))), (0, .ref (r (117)))] := h9
                          have wZ := w
                          subst eM_14 eM_16
                          refine ih (t + 1) (by omega) _ _ _ (wZ) ?_
                          exact hlZ
                      exact loop 32 0 (by omega) _ _ ls w hl
                    | succ k ih =>
                      intro t ht H locs ls w hl
                      obtain ⟨M_17, eM_17⟩ : ∃ zz, zz = f_X12_sums_L101 M_8 t := ⟨_, rfl⟩
                      rw [← eM_17] at w
                      refine lv_iload_n C.1 C.2.1 dX12_sums_101 rfl (lv_at hl 0 rfl) ?_
                      refine lv_aload_n C.1 C.2.1 dX12_sums_102 rfl (lv_at hl 2 rfl) ?_
                      refine m_get C w (k := 117) (j := 14) (v := .int (M_17.1 117 14)) flX12_250 (by decide) rfl rfl dX12_sums_103 ?_
                      refine m_i (y := nI (sm_p q + 4 + 4)) (by rw [eM_17, ((w_f_X12_sums_L101 _ _) 117 (by simp)).1, eM_8, ((w_f_X12_sums_L75 _ _) 117 (by simp)).1]; exact (by rw [eM_6, i_sm3 q _ (by rw [eM_4, i_sm2 q _ (by rw [eM_2, i_sm1 q _ (by rw [eM_1]; exact r_X12_put _ _ _)]; congr 1; omega)])])) ?_
                      refine m_icmp_ge (tgt := 120) (a := t * 64) (b := sm_p q + 4 + 4) C (by omega) (by omega) dX12_sums_106 (by decide) (fun h_18 => absurd h_18 (by omega)) (fun _ => ?_)
                      refine lv_aload_n C.1 C.2.1 dX12_sums_109 rfl (lv_at hl 2 rfl) ?_
                      refine lv_iload_n C.1 C.2.1 dX12_sums_110 rfl (lv_at hl 0 rfl) ?_
                      refine m_cvv C w hl cvX12_258 (k := 117) (by decide) rfl (q := (RX12, TX12, 58)) rfl rfl (As := [.int (nI (t * 64))]) (rest := []) (c_X12_block l D b0 r M_17 (t * 64) (by omega)) rfl rfl (Nat.le_of_ble_eq_true rfl) ⟨Nat.le_of_ble_eq_true rfl, Nat.le_of_ble_eq_true rfl⟩ ⟨Nat.zero_le _, Nat.zero_le _⟩ dX12_sums_111 (fun M_19 H locs eM_19 w => ?_)
                      refine lv_iinc (v := (nI (t * 64 + 64))) (lv' := [(2, .int (nI (t * 64 + 64))), (1, .int (nI (8 * q))), (0, .ref (r (117)))]) C.1 C.2.1 dX12_sums_114 hl (k := 0) rfl (nI_add (t * 64) 64) (by decide) rfl (fun ls hl => ?_)
                      refine lv_goto (tgt := 101) C.1 C.2.1 dX12_sums_117 (by decide) ?_
                      have h9 : lv_has ls 3 [(2, .int (nI (t * 64 + 64))), (1, .int (nI (8 * q))), (0, .ref (r (117)))] := lv_sub hl [0, 1, 2] rfl
                      rw [show ((nI (t * 64 + 64)) : Int32) = (nI ((t + 1) * 64)) from (by first | rfl | (congr 1; omega))] at h9
                      have hlZ : lv_has ls 3 [(2, .int (nI ((t + 1) * 64))), (1, .int (nI (8 * q))), (0, .ref (r (117)))] := h9
                      have wZ := w
                      subst eM_17 eM_19
                      refine ih (t + 1) (by omega) _ _ _ (wZ) ?_
                      exact hlZ
                  exact loop ((sm_p q + 4 + 4) / 64) 0 (by omega) _ _ ls w (by have h9 := hl; first | exact h9 | simpa using h9)
                | succ k ih =>
                  intro t ht H locs ls w hl
                  obtain ⟨M_20, eM_20⟩ : ∃ zz, zz = f_X12_sums_L75 M_6 t := ⟨_, rfl⟩
                  rw [← eM_20] at w
                  refine lv_iload_n C.1 C.2.1 dX12_sums_75 rfl (lv_at hl 0 rfl) ?_
                  refine lv_bipush (v := 8) C.1 C.2.1 dX12_sums_76 (by decide) ?_
                  refine m_icmp_ge (tgt := 99) (a := t) (b := 8) C (by omega) (by omega) dX12_sums_78 (by decide) (fun h_21 => absurd h_21 (by omega)) (fun _ => ?_)
                  refine lv_aload_n C.1 C.2.1 dX12_sums_81 rfl (lv_at hl 2 rfl) ?_
                  refine m_get C w (k := 117) (j := 10) (v := .ref (r (126))) flX12_107 (by decide) rfl rfl dX12_sums_82 ?_
                  refine lv_iload_n C.1 C.2.1 dX12_sums_85 rfl (lv_at hl 0 rfl) ?_
                  refine lv_aload_n C.1 C.2.1 dX12_sums_86 rfl (lv_at hl 2 rfl) ?_
                  refine m_get C w (k := 117) (j := 8) (v := .ref (r (124))) flX12_101 (by decide) rfl rfl dX12_sums_87 ?_
                  refine lv_iload_n C.1 C.2.1 dX12_sums_90 rfl (lv_at hl 0 rfl) ?_
                  refine m_iald C w (k := 124) (i := t) (n := 8) (wr := true) (by decide) rfl (by omega) (by decide) dX12_sums_91 ?_
                  refine m_iast C w (k := 126) (i := t) (n := 8) (x := (M_20.1 124 t)) (by decide) rfl (by omega) (by decide) dX12_sums_92 (fun H locs w => ?_)
                  obtain ⟨M_22, eM_22⟩ : ∃ zz, zz = mm_w M_20 126 t (M_20.1 124 t) := ⟨_, rfl⟩
                  rw [← eM_22] at w
                  refine lv_iinc (v := (nI (t + 1))) (lv' := [(2, .int (nI (t + 1))), (1, .int (nI (8 * q))), (0, .ref (r (117)))]) C.1 C.2.1 dX12_sums_93 hl (k := 0) rfl (nI_add t 1) (by decide) rfl (fun ls hl => ?_)
                  refine lv_goto (tgt := 75) C.1 C.2.1 dX12_sums_96 (by decide) ?_
                  have h9 : lv_has ls 3 [(2, .int (nI (t + 1))), (1, .int (nI (8 * q))), (0, .ref (r (117)))] := lv_sub hl [0, 1, 2] rfl
                  have hlZ : lv_has ls 3 [(2, .int (nI (t + 1))), (1, .int (nI (8 * q))), (0, .ref (r (117)))] := h9
                  have wZ := w
                  subst eM_20 eM_22
                  refine ih (t + 1) (by omega) _ _ _ (wZ) ?_
                  exact hlZ
              exact loop 8 0 (by omega) _ _ ls w hl
            | succ k ih =>
              intro t ht H locs ls w hl
              obtain ⟨M_23, eM_23⟩ : ∃ zz, zz = f_X12_sums_L56 q M_4 t := ⟨_, rfl⟩
              rw [← eM_23] at w
              rw [mm_dnd8 (n := 32 - 8 * t) (m := 24 - 8 * t) (by omega)] at hl
              refine lv_iload_n C.1 C.2.1 dX12_sums_56 rfl (lv_at hl 0 rfl) ?_
              refine lv_if_lt (tgt := 73) C.1 C.2.1 dX12_sums_57 (by decide) (fun h_24 => absurd h_24 (nI_pos (by omega))) (fun _ => ?_)
              refine lv_aload_n C.1 C.2.1 dX12_sums_60 rfl (lv_at hl 2 rfl) ?_
              refine lv_iload_n C.1 C.2.1 dX12_sums_61 rfl (lv_at hl 1 rfl) ?_
              refine lv_iload_n C.1 C.2.1 dX12_sums_62 rfl (lv_at hl 0 rfl) ?_
              refine lv_ishr C.1 C.2.1 dX12_sums_63 ?_
              refine m_cvv C w hl cvX12_254 (k := 117) (by decide) rfl (q := (RX12, TX12, 58)) rfl rfl (As := [.int ((nI (8 * q)) >>> ((nI (24 - 8 * t)) &&& 31))]) (rest := []) (c_X12_put l D b0 r M_23 ((nI (8 * q)) >>> ((nI (24 - 8 * t)) &&& 31)) (sm_p q + 4 + t) (by omega) (by rw [eM_23]; exact i_sm3 q _ (by rw [eM_4, i_sm2 q _ (by rw [eM_2, i_sm1 q _ (by rw [eM_1]; exact r_X12_put _ _ _)]; congr 1; omega)]) _)) rfl rfl (Nat.le_of_ble_eq_true rfl) ⟨Nat.le_of_ble_eq_true rfl, Nat.le_of_ble_eq_true rfl⟩ ⟨Nat.zero_le _, Nat.zero_le _⟩ dX12_sums_64 (fun M_25 H locs eM_25 w => ?_)
              refine lv_iinc (v := (nI (32 - 8 * (t + 1)) - 8)) (lv' := [(2, .int (nI (32 - 8 * (t + 1)) - 8)), (1, .int (nI (8 * q))), (0, .ref (r (117)))]) C.1 C.2.1 dX12_sums_67 hl (k := 0) rfl (mm_dnd8b (by omega)) (by decide) rfl (fun ls hl => ?_)
              refine lv_goto (tgt := 56) C.1 C.2.1 dX12_sums_70 (by decide) ?_
              have h9 : lv_has ls 3 [(2, .int (nI (32 - 8 * (t + 1)) - 8)), (1, .int (nI (8 * q))), (0, .ref (r (117)))] := lv_sub hl [0, 1, 2] rfl
              have hlZ : lv_has ls 3 [(2, .int (nI (32 - 8 * (t + 1)) - 8)), (1, .int (nI (8 * q))), (0, .ref (r (117)))] := h9
              have wZ := w
              subst eM_23 eM_25
              refine ih (t + 1) (by omega) _ _ _ (wZ) ?_
              exact hlZ
          exact loop 4 0 (by omega) _ _ ls w (by have h9 := hl; first | exact h9 | simpa using h9)
        | succ k ih =>
          intro t ht H locs ls w hl
          obtain ⟨M_26, eM_26⟩ : ∃ zz, zz = f_X12_sums_L37 q M_2 t := ⟨_, rfl⟩
          rw [← eM_26] at w
          refine lv_iload_n C.1 C.2.1 dX12_sums_37 rfl (lv_at hl 0 rfl) ?_
          refine lv_iconst (v := 4) C.1 C.2.1 dX12_sums_38 (by decide) ?_
          refine m_icmp_ge (tgt := 53) (a := t) (b := 4) C (by omega) (by omega) dX12_sums_39 (by decide) (fun h_27 => absurd h_27 (by omega)) (fun _ => ?_)
          refine lv_aload_n C.1 C.2.1 dX12_sums_42 rfl (lv_at hl 2 rfl) ?_
          refine lv_iconst (v := 0) C.1 C.2.1 dX12_sums_43 (by decide) ?_
          refine m_cvv C w hl cvX12_254 (k := 117) (by decide) rfl (q := (RX12, TX12, 58)) rfl rfl (As := [.int 0]) (rest := []) (c_X12_put l D b0 r M_26 (0 : Int32) (sm_p q + t) (by omega) (by rw [eM_26]; exact i_sm2 q _ (by rw [eM_2, i_sm1 q _ (by rw [eM_1]; exact r_X12_put _ _ _)]; congr 1; omega) _)) rfl rfl (Nat.le_of_ble_eq_true rfl) ⟨Nat.le_of_ble_eq_true rfl, Nat.le_of_ble_eq_true rfl⟩ ⟨Nat.zero_le _, Nat.zero_le _⟩ dX12_sums_44 (fun M_28 H locs eM_28 w => ?_)
          refine lv_iinc (v := (nI (t + 1))) (lv' := [(2, .int (nI (t + 1))), (1, .int (nI (8 * q))), (0, .ref (r (117)))]) C.1 C.2.1 dX12_sums_47 hl (k := 0) rfl (nI_add t 1) (by decide) rfl (fun ls hl => ?_)
          refine lv_goto (tgt := 37) C.1 C.2.1 dX12_sums_50 (by decide) ?_
          have h9 : lv_has ls 3 [(2, .int (nI (t + 1))), (1, .int (nI (8 * q))), (0, .ref (r (117)))] := lv_sub hl [0, 1, 2] rfl
          have hlZ : lv_has ls 3 [(2, .int (nI (t + 1))), (1, .int (nI (8 * q))), (0, .ref (r (117)))] := h9
          have wZ := w
          subst eM_26 eM_28
          refine ih (t + 1) (by omega) _ _ _ (wZ) ?_
          exact hlZ
      exact loop 4 0 (by omega) _ _ ls w hl
    | succ k ih =>
      intro t ht H locs ls w hl
      obtain ⟨M_29, eM_29⟩ : ∃ zz, zz = f_X12_sums_L15 q M_1 t := ⟨_, rfl⟩
      rw [← eM_29] at w
      refine lv_aload_n C.1 C.2.1 dX12_sums_15 rfl (lv_at hl 1 rfl) ?_
      refine m_get C w (k := 117) (j := 14) (v := .int (M_29.1 117 14)) flX12_250 (by decide) rfl rfl dX12_sums_16 ?_
      refine m_i (y := nI (q + 1 + t)) (by rw [eM_29]; exact i_sm1 q _ (by rw [eM_1]; exact r_X12_put _ _ _) _) ?_
      refine lv_bipush (v := 64) C.1 C.2.1 dX12_sums_19 (by decide) ?_
      refine lv_irem C.1 C.2.1 dX12_sums_21 (by decide) ?_
      refine m_i (y := nI ((q + 1 + t) % 64)) (pk_rem (a := q + 1 + t) (d := 64) (by omega) (by omega) (by omega)) ?_
      refine lv_bipush (v := 56) C.1 C.2.1 dX12_sums_22 (by decide) ?_
      refine m_icmp_eq (tgt := 35) (a := (q + 1 + t) % 64) (b := 56) C (by omega) (by omega) dX12_sums_24 (by decide) (fun h_30 => absurd h_30 (by have := sm_pn q t (by omega); omega)) (fun _ => ?_)
      refine lv_aload_n C.1 C.2.1 dX12_sums_27 rfl (lv_at hl 1 rfl) ?_
      refine lv_iconst (v := 0) C.1 C.2.1 dX12_sums_28 (by decide) ?_
      refine m_cvv C w hl cvX12_254 (k := 117) (by decide) rfl (q := (RX12, TX12, 58)) rfl rfl (As := [.int 0]) (rest := []) (c_X12_put l D b0 r M_29 (0 : Int32) (q + 1 + t) (by omega) (by rw [eM_29]; exact i_sm1 q _ (by rw [eM_1]; exact r_X12_put _ _ _) _)) rfl rfl (Nat.le_of_ble_eq_true rfl) ⟨Nat.le_of_ble_eq_true rfl, Nat.le_of_ble_eq_true rfl⟩ ⟨Nat.zero_le _, Nat.zero_le _⟩ dX12_sums_29 (fun M_31 H locs eM_31 w => ?_)
      refine lv_goto (tgt := 15) C.1 C.2.1 dX12_sums_32 (by decide) ?_
      have h9 : lv_has ls 3 [(1, .int (nI (8 * q))), (0, .ref (r (117)))] := lv_sub hl [0, 1] rfl
      have hlZ : lv_has ls 3 [(1, .int (nI (8 * q))), (0, .ref (r (117)))] := h9
      have wZ := w
      subst eM_29 eM_31
      refine ih (t + 1) (by omega) _ _ _ (wZ) ?_
      exact hlZ
  exact loop (sm_p q - (q + 1)) 0 (by omega) _ _ ls w hl
