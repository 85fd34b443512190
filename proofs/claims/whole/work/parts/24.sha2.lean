def f_X8_absorb_B1 (q : Nat) (t : Nat) (M_8 : mm_M) : mm_M :=
  if ¬ ((q + t) % 64 + 1) = 64 then (M_8) else (let M_10 := f_X8_fillSchedule M_8
  let M_11 := f_X8_compress M_10
  let M_12 := mm_w M_11 23 3 (0 : Int32)
  M_12)
theorem w_f_X8_absorb_B1 (q : Nat) (t : Nat) (M_8 : mm_M) : mm_fr [25, 24, 23] M_8 (f_X8_absorb_B1 q t M_8) := by
  unfold f_X8_absorb_B1
  exact (mm_fr_ite (fun _ => (mm_fr_refl _ _)) (fun _ => (mm_fr_w (by simp) ((w_f_X8_compress _).on (by simp) ((w_f_X8_fillSchedule _).on (by simp) (mm_fr_refl _ _))))))
def f_X8_absorb_L3 (k1 : Nat) (p1 : Nat) (q : Nat) (σ : mm_M) : Nat → mm_M
  | 0 => σ
  | t + 1 =>
  let M_4 := f_X8_absorb_L3 k1 p1 q σ t
  let M_7 := mm_w M_4 26 ((q + t) % 64) (M_4.1 k1 (p1 + t))
  let M_8 := mm_w M_7 23 3 (nI ((q + t) % 64 + 1))
  f_X8_absorb_B1 q t M_8
theorem w_f_X8_absorb_L3 (k1 : Nat) (p1 : Nat) (q : Nat) (σ : mm_M) : ∀ t : Nat, mm_fr [26, 23, 25, 24] σ (f_X8_absorb_L3 k1 p1 q σ t)
  | 0 => mm_fr_refl _ _
  | t + 1 => have ih := w_f_X8_absorb_L3 k1 p1 q σ t
    ((w_f_X8_absorb_B1 _ _ _).on (by simp) (mm_fr_w (by simp) (mm_fr_w (by simp) ih)))
def f_X8_absorb (k1 : Nat) (p1 : Nat) (p2 : Nat) (q : Nat) (M : mm_M) : mm_M :=
  let M_1 := f_X8_absorb_L3 k1 p1 q M p2
  let M_3 := mm_wl M_1 23 4 ((M_1.2 23 4) + (((nI (p2)) : Int32).toInt64))
  M_3
theorem w_f_X8_absorb (k1 : Nat) (p1 : Nat) (p2 : Nat) (q : Nat) (M : mm_M) : mm_fr [23, 26, 25, 24] M (f_X8_absorb k1 p1 p2 q M) := by
  unfold f_X8_absorb
  exact (mm_fr_wl (by simp) ((w_f_X8_absorb_L3 _ _ _ _ p2).on (by simp) (mm_fr_refl _ _)))
theorem i_X8_absorb (k1 p1 q : Nat) (hq : q < 64) (M : mm_M) (h0 : M.1 23 3 = nI q) : ∀ t, (f_X8_absorb_L3 k1 p1 q M t).1 23 3 = nI ((q + t) % 64)
  | 0 => by
    show M.1 23 3 = _
    rw [h0]; congr 1; omega
  | t + 1 => by
    have ih := i_X8_absorb k1 p1 q hq M h0 t
    unfold f_X8_absorb_L3
    dsimp only
    unfold f_X8_absorb_B1
    dsimp only
    split
    · simp only [mm_w]
      simp
      congr 1; omega
    · rename_i h
      have h9 : (q + t) % 64 + 1 = 64 := Classical.not_not.mp h
      simp only [mm_w]
      simp
      rw [show (q + (t + 1)) % 64 = 0 by omega]; rfl
set_option maxHeartbeats 4000000 in
set_option maxRecDepth 100000 in
theorem c_X8_absorb (l : Launch) (D : va_G) (b0 : Nat) (r : Nat → Nat) (M : mm_M) (k1 : Nat) (p1 : Nat) (p2 : Nat) (q : Nat) {n1 : Nat} {w1 : Bool} (hk1 : k1 < 181) (hs1 : mm_sh k1 = .inl (.byte, n1, w1)) (hn1 : n1 < 2 ^ 31) (hp1 : p1 + p2 ≤ n1) (hp2 : n1 < 2 ^ 30) (hq : q < 64) (h0 : M.1 23 3 = nI q) : mm_Mv l yX8_absorb cX8_absorb 5 2 55 D b0 r [.ref (r (23)), .ref (r (k1)), .int (nI (p1)), .int (nI (p2))] M (fun M' => M' = f_X8_absorb k1 p1 p2 q M) := by
  refine mm_enter (cc := cX8_absorb) (nL := 5) (ret := none) (by decide) (Nat.le_of_ble_eq_true rfl) ?_
  intro p e s m args below meth c C w ls hl
  have hl : lv_has ls 5 [(0, .ref (r (23))), (1, .ref (r (k1))), (2, .int (nI (p1))), (3, .int (nI (p2)))] := hl
  refine lv_iconst (v := 0) C.1 C.2.1 dX8_absorb_0 (by decide) ?_
  refine lv_istore (lv' := [(4, .int 0), (0, .ref (r (23))), (1, .ref (r (k1))), (2, .int (nI (p1))), (3, .int (nI (p2)))]) C.1 C.2.1 dX8_absorb_1 hl (by decide) rfl (fun ls hl => ?_)
  have loop : ∀ (k t : Nat), t + k = p2 → ∀ (H : Heap) (locs : List Loc) (ls : Array Slot), mm_W D b0 r (f_X8_absorb_L3 k1 p1 q M t) s H locs → lv_has ls 5 [(4, .int (nI (t))), (0, .ref (r (23))), (1, .ref (r (k1))), (2, .int (nI (p1))), (3, .int (nI (p2)))] → W p l e (mm_rm 2 55) s m args below meth c H locs 0 0 (MQ below (va_Qv (fun M' => M' = f_X8_absorb k1 p1 p2 q M) (mm_U D b0 r) (fun q => b0 ≤ q)) args s 0 0 (fun q => b0 ≤ q)) (F0 m 3 ls []) := by
    intro k
    induction k with
    | zero =>
      intro t ht H locs ls w hl
      obtain rfl : p2 = t := by omega
      obtain ⟨M_1, eM_1⟩ : ∃ zz, zz = f_X8_absorb_L3 k1 p1 q M p2 := ⟨_, rfl⟩
      rw [← eM_1] at w
      refine lv_iload C.1 C.2.1 dX8_absorb_3 (lv_at hl 0 rfl) ?_
      refine lv_iload_n C.1 C.2.1 dX8_absorb_5 rfl (lv_at hl 4 rfl) ?_
      refine m_icmp_ge (tgt := 62) (a := p2) (b := p2) C (by omega) (by omega) dX8_absorb_6 (by decide) (fun _ => ?_) (fun h_2 => absurd h_2 (by omega))
      refine lv_aload_n C.1 C.2.1 dX8_absorb_62 rfl (lv_at hl 1 rfl) ?_
      refine lv_dup C.1 C.2.1 dX8_absorb_63 rfl ?_
      refine m_get C w (k := 23) (j := 4) (v := .long (M_1.2 23 4)) flX8_24 (by decide) rfl rfl dX8_absorb_64 ?_
      refine lv_iload_n C.1 C.2.1 dX8_absorb_67 rfl (lv_at hl 4 rfl) ?_
      refine lv_i2l (v := ((nI (p2)) : Int32).toInt64) C.1 C.2.1 dX8_absorb_68 rfl ?_
      refine lv_ladd C.1 C.2.1 dX8_absorb_69 ?_
      refine m_putl C w (k := 23) (j := 4) (x := ((M_1.2 23 4) + (((nI (p2)) : Int32).toInt64))) flX8_24w (by decide) rfl rfl dX8_absorb_70 (fun H locs w => ?_)
      obtain ⟨M_3, eM_3⟩ : ∃ zz, zz = mm_wl M_1 23 4 ((M_1.2 23 4) + (((nI (p2)) : Int32).toInt64)) := ⟨_, rfl⟩
      rw [← eM_3] at w
      exact m_vret C w (by subst eM_1 eM_3; exact Eq.symm (rfl)) dX8_absorb_73
    | succ k ih =>
      intro t ht H locs ls w hl
      obtain ⟨M_4, eM_4⟩ : ∃ zz, zz = f_X8_absorb_L3 k1 p1 q M t := ⟨_, rfl⟩
      rw [← eM_4] at w
      refine lv_iload C.1 C.2.1 dX8_absorb_3 (lv_at hl 0 rfl) ?_
      refine lv_iload_n C.1 C.2.1 dX8_absorb_5 rfl (lv_at hl 4 rfl) ?_
      refine m_icmp_ge (tgt := 62) (a := t) (b := p2) C (by omega) (by omega) dX8_absorb_6 (by decide) (fun h_5 => absurd h_5 (by omega)) (fun _ => ?_)
      refine lv_aload_n C.1 C.2.1 dX8_absorb_9 rfl (lv_at hl 1 rfl) ?_
      refine m_get C w (k := 23) (j := 2) (v := .ref (r (26))) flX8_16 (by decide) rfl rfl dX8_absorb_10 ?_
      refine lv_aload_n C.1 C.2.1 dX8_absorb_13 rfl (lv_at hl 1 rfl) ?_
      refine m_get C w (k := 23) (j := 3) (v := .int (M_4.1 23 3)) flX8_20 (by decide) rfl rfl dX8_absorb_14 ?_
      refine m_i (y := nI ((q + t) % 64)) (by rw [eM_4]; exact i_X8_absorb k1 p1 q hq M h0 t) ?_
      refine lv_aload_n C.1 C.2.1 dX8_absorb_17 rfl (lv_at hl 2 rfl) ?_
      refine lv_iload_n C.1 C.2.1 dX8_absorb_18 rfl (lv_at hl 3 rfl) ?_
      refine lv_iload C.1 C.2.1 dX8_absorb_19 (lv_at hl 0 rfl) ?_
      refine lv_iadd C.1 C.2.1 dX8_absorb_21 ?_
      refine m_i (y := nI (p1 + t)) (nI_add p1 t) ?_
      have hb_6 := w.1.byte (k := k1) (j := p1 + t) hk1 hs1 (by omega)
      refine m_bald C w (k := k1) (i := p1 + t) (n := n1) (wr := w1) hk1 hs1 (by omega) hn1 dX8_absorb_22 ?_
      refine m_bast C w (k := 26) (i := (q + t) % 64) (n := 64) (x := (M_4.1 k1 (p1 + t))) (by decide) rfl (by omega) (by decide) hb_6 dX8_absorb_23 (fun H locs w => ?_)
      obtain ⟨M_7, eM_7⟩ : ∃ zz, zz = mm_w M_4 26 ((q + t) % 64) (M_4.1 k1 (p1 + t)) := ⟨_, rfl⟩
      rw [← eM_7] at w
      refine lv_aload_n C.1 C.2.1 dX8_absorb_24 rfl (lv_at hl 1 rfl) ?_
      refine lv_dup C.1 C.2.1 dX8_absorb_25 rfl ?_
      refine m_get C w (k := 23) (j := 3) (v := .int (M_7.1 23 3)) flX8_20 (by decide) rfl rfl dX8_absorb_26 ?_
      refine m_i (y := nI ((q + t) % 64)) (by rw [eM_7, eM_4]; simp [mm_w]; exact i_X8_absorb k1 p1 q hq M h0 t) ?_
      refine lv_iconst (v := 1) C.1 C.2.1 dX8_absorb_29 (by decide) ?_
      refine lv_iadd C.1 C.2.1 dX8_absorb_30 ?_
      refine m_i (y := nI ((q + t) % 64 + 1)) (nI_add ((q + t) % 64) 1) ?_
      refine m_puti C w (k := 23) (j := 3) (x := (nI ((q + t) % 64 + 1))) rfl flX8_20w (by decide) rfl rfl dX8_absorb_31 (fun H locs w => ?_)
      obtain ⟨M_8, eM_8⟩ : ∃ zz, zz = mm_w M_7 23 3 (nI ((q + t) % 64 + 1)) := ⟨_, rfl⟩
      rw [← eM_8] at w
      refine lv_aload_n C.1 C.2.1 dX8_absorb_34 rfl (lv_at hl 1 rfl) ?_
      refine m_get C w (k := 23) (j := 3) (v := .int (M_8.1 23 3)) flX8_20 (by decide) rfl rfl dX8_absorb_35 ?_
      refine m_i (y := nI ((q + t) % 64 + 1)) (by rw [eM_8]; simp [mm_w]) ?_
      refine lv_bipush (v := 64) C.1 C.2.1 dX8_absorb_38 (by decide) ?_
      refine m_icmp_ne (tgt := 56) (a := (q + t) % 64 + 1) (b := 64) C (by omega) (by omega) dX8_absorb_40 (by decide) (fun h_9 => ?_) (fun h_9 => ?_)
      · refine lv_iinc (v := (nI (t + 1))) (lv' := [(4, .int (nI (t + 1))), (0, .ref (r (23))), (1, .ref (r (k1))), (2, .int (nI (p1))), (3, .int (nI (p2)))]) C.1 C.2.1 dX8_absorb_56 hl (k := 0) rfl (nI_add t 1) (by decide) rfl (fun ls hl => ?_)
        refine lv_goto (tgt := 3) C.1 C.2.1 dX8_absorb_59 (by decide) ?_
        have h9 : lv_has ls 5 [(4, .int (nI (t + 1))), (0, .ref (r (23))), (1, .ref (r (k1))), (2, .int (nI (p1))), (3, .int (nI (p2)))] := lv_sub hl [0, 1, 2, 3, 4] rfl
        have hlZ : lv_has ls 5 [(4, .int (nI (t + 1))), (0, .ref (r (23))), (1, .ref (r (k1))), (2, .int (nI (p1))), (3, .int (nI (p2)))] := h9
        have wZ := w
        subst eM_4 eM_7 eM_8
        refine ih (t + 1) (by omega) _ _ _ (m_w (Eq.symm (congrArg (fun z => z) (show f_X8_absorb_L3 k1 p1 q M (t + 1) = _ from ((if_pos h_9).trans rfl)))) wZ) ?_
        exact hlZ
      · refine lv_aload_n C.1 C.2.1 dX8_absorb_43 rfl (lv_at hl 1 rfl) ?_
        refine m_cvv C w hl cvX8_37 (k := 23) (by decide) rfl (q := (RX8, TX8, 5)) rfl rfl (As := []) (rest := []) (c_X8_fillSchedule l D b0 r M_8  ) rfl rfl (Nat.le_of_ble_eq_true rfl) ⟨Nat.le_of_ble_eq_true rfl, Nat.le_of_ble_eq_true rfl⟩ ⟨Nat.zero_le _, Nat.zero_le _⟩ dX8_absorb_44 (fun M_10 H locs eM_10 w => ?_)
        refine lv_aload_n C.1 C.2.1 dX8_absorb_47 rfl (lv_at hl 1 rfl) ?_
        refine m_cvv C w hl cvX8_40 (k := 23) (by decide) rfl (q := (RX8, TX8, 5)) rfl rfl (As := []) (rest := []) (c_X8_compress l D b0 r M_10  ) rfl rfl (Nat.le_of_ble_eq_true rfl) ⟨Nat.le_of_ble_eq_true rfl, Nat.le_of_ble_eq_true rfl⟩ ⟨Nat.zero_le _, Nat.zero_le _⟩ dX8_absorb_48 (fun M_11 H locs eM_11 w => ?_)
        refine lv_aload_n C.1 C.2.1 dX8_absorb_51 rfl (lv_at hl 1 rfl) ?_
        refine lv_iconst (v := 0) C.1 C.2.1 dX8_absorb_52 (by decide) ?_
        refine m_puti C w (k := 23) (j := 3) (x := (0 : Int32)) rfl flX8_20w (by decide) rfl rfl dX8_absorb_53 (fun H locs w => ?_)
        obtain ⟨M_12, eM_12⟩ : ∃ zz, zz = mm_w M_11 23 3 (0 : Int32) := ⟨_, rfl⟩
        rw [← eM_12] at w
        refine lv_iinc (v := (nI (t + 1))) (lv' := [(4, .int (nI (t + 1))), (0, .ref (r (23))), (1, .ref (r (k1))), (2, .int (nI (p1))), (3, .int (nI (p2)))]) C.1 C.2.1 dX8_absorb_56 hl (k := 0) rfl (nI_add t 1) (by decide) rfl (fun ls hl => ?_)
        refine lv_goto (tgt := 3) C.1 C.2.1 dX8_absorb_59 (by decide) ?_
        have h9 : lv_has ls 5 [(4, .int (nI (t + 1))), (0, .ref (r (23))), (1, .ref (r (k1))), (2, .int (nI (p1))), (3, .int (nI (p2)))] := lv_sub hl [0, 1, 2, 3, 4] rfl
        have hlZ : lv_has ls 5 [(4, .int (nI (t + 1))), (0, .ref (r (23))), (1, .ref (r (k1))), (2, .int (nI (p1))), (3, .int (nI (p2)))] := h9
        have wZ := w
        subst eM_4 eM_7 eM_8 eM_10 eM_11 eM_12
        refine ih (t + 1) (by omega) _ _ _ (m_w (Eq.symm (congrArg (fun z => z) (show f_X8_absorb_L3 k1 p1 q M (t + 1) = _ from ((if_neg (fun q => q h_9)).trans rfl)))) wZ) ?_
        exact hlZ
  exact loop p2 0 (by omega) _ _ ls w hl

def f_X8_finish_L88 (k1 : Nat) (σ : mm_M) : Nat → mm_M
  | 0 => σ
  | t + 1 =>
  let M_11 := f_X8_finish_L88 k1 σ t
  let M_13 := f_X1_storeBig (M_11.1 24 t) k1 (4 * t) M_11
  M_13
theorem w_f_X8_finish_L88 (k1 : Nat) (σ : mm_M) : ∀ t : Nat, mm_fr [k1] σ (f_X8_finish_L88 k1 σ t)
  | 0 => mm_fr_refl _ _
  | t + 1 => have ih := w_f_X8_finish_L88 k1 σ t
    ((w_f_X1_storeBig _ _ _ _).on (by simp) ih)
def f_X8_finish_B1 (k1 : Nat) (q : Nat) (M_2 : mm_M) : mm_M :=
  if q < 56 then (let x2_4 := (M_2.2 23 4) * (8)
  let M_5 := f_X1_storeBig (((mm_ul (x2_4) (32 : Int32)) : Int64).toInt32) 26 56 M_2
  let M_6 := f_X1_storeBig (((x2_4) : Int64).toInt32) 26 60 M_5
  let M_7 := f_X8_fillSchedule M_6
  let M_8 := f_X8_compress M_7
  let M_9 := f_X8_finish_L88 k1 M_8 8
  M_9) else (let M_14 := f_X8_fillSchedule M_2
  let M_15 := f_X8_compress M_14
  let M_16 := f_X8_clearBlock 0 M_15
  let x2_17 := (M_16.2 23 4) * (8)
  let M_18 := f_X1_storeBig (((mm_ul (x2_17) (32 : Int32)) : Int64).toInt32) 26 56 M_16
  let M_19 := f_X1_storeBig (((x2_17) : Int64).toInt32) 26 60 M_18
  let M_20 := f_X8_fillSchedule M_19
  let M_21 := f_X8_compress M_20
  let M_22 := f_X8_finish_L88 k1 M_21 8
  M_22)
theorem w_f_X8_finish_B1 (k1 : Nat) (q : Nat) (M_2 : mm_M) : mm_fr [26, 25, 24, k1] M_2 (f_X8_finish_B1 k1 q M_2) := by
  unfold f_X8_finish_B1
  exact (mm_fr_ite (fun _ => ((w_f_X8_finish_L88 _ _ 8).on (by simp) ((w_f_X8_compress _).on (by simp) ((w_f_X8_fillSchedule _).on (by simp) ((w_f_X1_storeBig _ _ _ _).on (by simp) ((w_f_X1_storeBig _ _ _ _).on (by simp) (mm_fr_refl _ _))))))) (fun _ => ((w_f_X8_finish_L88 _ _ 8).on (by simp) ((w_f_X8_compress _).on (by simp) ((w_f_X8_fillSchedule _).on (by simp) ((w_f_X1_storeBig _ _ _ _).on (by simp) ((w_f_X1_storeBig _ _ _ _).on (by simp) ((w_f_X8_clearBlock _ _).on (by simp) ((w_f_X8_compress _).on (by simp) ((w_f_X8_fillSchedule _).on (by simp) (mm_fr_refl _ _)))))))))))
def f_X8_finish (k1 : Nat) (q : Nat) (M : mm_M) : mm_M :=
  let M_1 := mm_w M 26 q (-128 : Int32)
  let M_2 := f_X8_clearBlock (q + 1) M_1
  f_X8_finish_B1 k1 q M_2
theorem w_f_X8_finish (k1 : Nat) (q : Nat) (M : mm_M) : mm_fr [26, 25, 24, k1] M (f_X8_finish k1 q M) := by
  unfold f_X8_finish
  exact ((w_f_X8_finish_B1 _ _ _).on (by simp) ((w_f_X8_clearBlock _ _).on (by simp) (mm_fr_w (by simp) (mm_fr_refl _ _))))
set_option maxHeartbeats 4000000 in
set_option maxRecDepth 100000 in
theorem c_X8_finish (l : Launch) (D : va_G) (b0 : Nat) (r : Nat → Nat) (M : mm_M) (k1 : Nat) (q : Nat) {n1 : Nat} (hk1 : k1 < 173) (hs1 : mm_sh k1 = .inl (.byte, n1, true)) (hn1 : n1 < 2 ^ 31) (hp1 : 32 ≤ n1) (hq : q < 64) (h0 : M.1 23 3 = nI q) : mm_Mv l yX8_finish cX8_finish 5 2 55 D b0 r [.ref (r (23)), .ref (r (k1))] M (fun M' => M' = f_X8_finish k1 q M) := by
  refine mm_enter (cc := cX8_finish) (nL := 5) (ret := none) (by decide) (Nat.le_of_ble_eq_true rfl) ?_
  intro p e s m args below meth c C w ls hl
  have hl : lv_has ls 5 [(0, .ref (r (23))), (1, .ref (r (k1)))] := hl
  refine lv_aload_n C.1 C.2.1 dX8_finish_0 rfl (lv_at hl 0 rfl) ?_
  refine m_get C w (k := 23) (j := 2) (v := .ref (r (26))) flX8_16 (by decide) rfl rfl dX8_finish_1 ?_
  refine lv_aload_n C.1 C.2.1 dX8_finish_4 rfl (lv_at hl 0 rfl) ?_
  refine m_get C w (k := 23) (j := 3) (v := .int (M.1 23 3)) flX8_20 (by decide) rfl rfl dX8_finish_5 ?_
  refine m_i (y := nI (q)) h0 ?_
  refine lv_bipush (v := (-128)) C.1 C.2.1 dX8_finish_8 (by decide) ?_
  refine m_bast C w (k := 26) (i := q) (n := 64) (x := (-128 : Int32)) (by decide) rfl (by omega) (by decide) (by decide) dX8_finish_10 (fun H locs w => ?_)
  obtain ⟨M_1, eM_1⟩ : ∃ zz, zz = mm_w M 26 q (-128 : Int32) := ⟨_, rfl⟩
  rw [← eM_1] at w
  refine lv_aload_n C.1 C.2.1 dX8_finish_11 rfl (lv_at hl 0 rfl) ?_
  refine lv_aload_n C.1 C.2.1 dX8_finish_12 rfl (lv_at hl 0 rfl) ?_
  refine m_get C w (k := 23) (j := 3) (v := .int (M_1.1 23 3)) flX8_20 (by decide) rfl rfl dX8_finish_13 ?_
  refine m_i (y := nI (q)) (by have hf : mm_fr [26] M M_1 := (by subst eM_1; exact (mm_fr_w (by simp) (mm_fr_refl _ _))); rw [(hf 23 (by simp)).1]; exact h0) ?_
  refine lv_iconst (v := 1) C.1 C.2.1 dX8_finish_16 (by decide) ?_
  refine lv_iadd C.1 C.2.1 dX8_finish_17 ?_
  refine m_i (y := nI (q + 1)) (nI_add q 1) ?_
  refine m_cvv C w hl cvX8_43 (k := 23) (by decide) rfl (q := (RX8, TX8, 5)) rfl rfl (As := [.int (nI (q + 1))]) (rest := []) (c_X8_clearBlock l D b0 r M_1 (q + 1) (by omega)) rfl rfl (Nat.le_of_ble_eq_true rfl) ⟨Nat.le_of_ble_eq_true rfl, Nat.le_of_ble_eq_true rfl⟩ ⟨Nat.zero_le _, Nat.zero_le _⟩ dX8_finish_18 (fun M_2 H locs eM_2 w => ?_)
  refine lv_aload_n C.1 C.2.1 dX8_finish_21 rfl (lv_at hl 0 rfl) ?_
  refine m_get C w (k := 23) (j := 3) (v := .int (M_2.1 23 3)) flX8_20 (by decide) rfl rfl dX8_finish_22 ?_
  refine m_i (y := nI (q)) (by have hf : mm_fr [26] M M_2 := (by subst eM_1 eM_2; exact ((w_f_X8_clearBlock _ _).on (by simp) (mm_fr_w (by simp) (mm_fr_refl _ _)))); rw [(hf 23 (by simp)).1]; exact h0) ?_
  refine lv_bipush (v := 56) C.1 C.2.1 dX8_finish_25 (by decide) ?_
  refine m_icmp_lt (tgt := 43) (a := q) (b := 56) C (by omega) (by omega) dX8_finish_27 (by decide) (fun h_3 => ?_) (fun h_3 => ?_)
  · refine lv_aload_n C.1 C.2.1 dX8_finish_43 rfl (lv_at hl 0 rfl) ?_
    refine m_get C w (k := 23) (j := 4) (v := .long (M_2.2 23 4)) flX8_24 (by decide) rfl rfl dX8_finish_44 ?_
    refine lv_ldc2 (v := (8)) C.1 C.2.1 C.2.2.2.1 (C.2.2.2.2.1 _ klX8_47) dX8_finish_47 ?_
    refine lv_lmul C.1 C.2.1 dX8_finish_50 ?_
    refine lv_topl (fun x2_4 ex2_4 => ?_)
    refine lv_lstore_n (lv' := [(2, .long (x2_4)), (0, .ref (r (23))), (1, .ref (r (k1)))]) C.1 C.2.1 dX8_finish_51 rfl hl (by decide) rfl (fun ls hl => ?_)
    refine lv_lload_n C.1 C.2.1 dX8_finish_52 rfl (lv_at hl 0 rfl) ?_
    refine lv_bipush (v := 32) C.1 C.2.1 dX8_finish_53 (by decide) ?_
    refine lv_lushr (v := mm_ul (x2_4) (32 : Int32)) C.1 C.2.1 dX8_finish_55 rfl ?_
    refine lv_l2i (v := ((mm_ul (x2_4) (32 : Int32)) : Int64).toInt32) C.1 C.2.1 dX8_finish_56 rfl ?_
    refine lv_aload_n C.1 C.2.1 dX8_finish_57 rfl (lv_at hl 1 rfl) ?_
    refine m_get C w (k := 23) (j := 2) (v := .ref (r (26))) flX8_16 (by decide) rfl rfl dX8_finish_58 ?_
    refine lv_bipush (v := 56) C.1 C.2.1 dX8_finish_61 (by decide) ?_
    refine m_csv C w hl csX8_49 (As := [.int (((mm_ul (x2_4) (32 : Int32)) : Int64).toInt32), .ref (r (26)), .int 56]) (rest := []) (c_X1_storeBig l D b0 r M_2 (((mm_ul (x2_4) (32 : Int32)) : Int64).toInt32) 26 56 (by decide) rfl (by decide) (by omega)) rfl rfl (Nat.le_of_ble_eq_true rfl) ⟨Nat.le_of_ble_eq_true rfl, Nat.le_of_ble_eq_true rfl⟩ ⟨Nat.zero_le _, Nat.zero_le _⟩ dX8_finish_63 (fun M_5 H locs eM_5 w => ?_)
    refine lv_lload_n C.1 C.2.1 dX8_finish_66 rfl (lv_at hl 0 rfl) ?_
    refine lv_l2i (v := ((x2_4) : Int64).toInt32) C.1 C.2.1 dX8_finish_67 rfl ?_
    refine lv_aload_n C.1 C.2.1 dX8_finish_68 rfl (lv_at hl 1 rfl) ?_
    refine m_get C w (k := 23) (j := 2) (v := .ref (r (26))) flX8_16 (by decide) rfl rfl dX8_finish_69 ?_
    refine lv_bipush (v := 60) C.1 C.2.1 dX8_finish_72 (by decide) ?_
    refine m_csv C w hl csX8_49 (As := [.int (((x2_4) : Int64).toInt32), .ref (r (26)), .int 60]) (rest := []) (c_X1_storeBig l D b0 r M_5 (((x2_4) : Int64).toInt32) 26 60 (by decide) rfl (by decide) (by omega)) rfl rfl (Nat.le_of_ble_eq_true rfl) ⟨Nat.le_of_ble_eq_true rfl, Nat.le_of_ble_eq_true rfl⟩ ⟨Nat.zero_le _, Nat.zero_le _⟩ dX8_finish_74 (fun M_6 H locs eM_6 w => ?_)
    refine lv_aload_n C.1 C.2.1 dX8_finish_77 rfl (lv_at hl 1 rfl) ?_
    refine m_cvv C w hl cvX8_37 (k := 23) (by decide) rfl (q := (RX8, TX8, 5)) rfl rfl (As := []) (rest := []) (c_X8_fillSchedule l D b0 r M_6  ) rfl rfl (Nat.le_of_ble_eq_true rfl) ⟨Nat.le_of_ble_eq_true rfl, Nat.le_of_ble_eq_true rfl⟩ ⟨Nat.zero_le _, Nat.zero_le _⟩ dX8_finish_78 (fun M_7 H locs eM_7 w => ?_)
    refine lv_aload_n C.1 C.2.1 dX8_finish_81 rfl (lv_at hl 1 rfl) ?_
    refine m_cvv C w hl cvX8_40 (k := 23) (by decide) rfl (q := (RX8, TX8, 5)) rfl rfl (As := []) (rest := []) (c_X8_compress l D b0 r M_7  ) rfl rfl (Nat.le_of_ble_eq_true rfl) ⟨Nat.le_of_ble_eq_true rfl, Nat.le_of_ble_eq_true rfl⟩ ⟨Nat.zero_le _, Nat.zero_le _⟩ dX8_finish_82 (fun M_8 H locs eM_8 w => ?_)
    refine lv_iconst (v := 0) C.1 C.2.1 dX8_finish_85 (by decide) ?_
    refine lv_istore (lv' := [(4, .int 0), (2, .long (x2_4)), (0, .ref (r (23))), (1, .ref (r (k1)))]) C.1 C.2.1 dX8_finish_86 hl (by decide) rfl (fun ls hl => ?_)
    have loop : ∀ (k t : Nat), t + k = 8 → ∀ (H : Heap) (locs : List Loc) (ls : Array Slot), mm_W D b0 r (f_X8_finish_L88 k1 M_8 t) s H locs → lv_has ls 5 [(4, .int (nI (t))), (2, .long (x2_4)), (0, .ref (r (23))), (1, .ref (r (k1)))] → W p l e (mm_rm 2 55) s m args below meth c H locs 0 0 (MQ below (va_Qv (fun M' => M' = f_X8_finish k1 q M) (mm_U D b0 r) (fun q => b0 ≤ q)) args s 0 0 (fun q => b0 ≤ q)) (F0 m 88 ls []) := by
      intro k
      induction k with
      | zero =>
        intro t ht H locs ls w hl
        obtain rfl : 8 = t := by omega
        obtain ⟨M_9, eM_9⟩ : ∃ zz, zz = f_X8_finish_L88 k1 M_8 8 := ⟨_, rfl⟩
        rw [← eM_9] at w
        refine lv_iload C.1 C.2.1 dX8_finish_88 (lv_at hl 0 rfl) ?_
        refine lv_bipush (v := 8) C.1 C.2.1 dX8_finish_90 (by decide) ?_
        refine m_icmp_ge (tgt := 116) (a := 8) (b := 8) C (by omega) (by omega) dX8_finish_92 (by decide) (fun _ => ?_) (fun h_10 => absurd h_10 (by omega))
        exact m_vret C w (by subst eM_1 eM_2 ex2_4 eM_5 eM_6 eM_7 eM_8 eM_9; exact Eq.symm (((if_pos h_3).trans rfl))) dX8_finish_116
      | succ k ih =>
        intro t ht H locs ls w hl
        obtain ⟨M_11, eM_11⟩ : ∃ zz, zz = f_X8_finish_L88 k1 M_8 t := ⟨_, rfl⟩
        rw [← eM_11] at w
        refine lv_iload C.1 C.2.1 dX8_finish_88 (lv_at hl 0 rfl) ?_
        refine lv_bipush (v := 8) C.1 C.2.1 dX8_finish_90 (by decide) ?_
        refine m_icmp_ge (tgt := 116) (a := t) (b := 8) C (by omega) (by omega) dX8_finish_92 (by decide) (fun h_12 => absurd h_12 (by omega)) (fun _ => ?_)
        refine lv_aload_n C.1 C.2.1 dX8_finish_95 rfl (lv_at hl 2 rfl) ?_
        refine m_get C w (k := 23) (j := 0) (v := .ref (r (24))) flX8_7 (by decide) rfl rfl dX8_finish_96 ?_
        refine lv_iload C.1 C.2.1 dX8_finish_99 (lv_at hl 0 rfl) ?_
        refine m_iald C w (k := 24) (i := t) (n := 8) (wr := true) (by decide) rfl (by omega) (by decide) dX8_finish_101 ?_
        refine lv_aload_n C.1 C.2.1 dX8_finish_102 rfl (lv_at hl 3 rfl) ?_
        refine lv_iconst (v := 4) C.1 C.2.1 dX8_finish_103 (by decide) ?_
        refine lv_iload C.1 C.2.1 dX8_finish_104 (lv_at hl 0 rfl) ?_
        refine lv_imul C.1 C.2.1 dX8_finish_106 ?_
        refine m_i (y := nI (4 * t)) (pk_mul 4 t) ?_
        refine m_csv C w hl csX8_49 (As := [.int (M_11.1 24 t), .ref (r (k1)), .int (nI (4 * t))]) (rest := []) (c_X1_storeBig l D b0 r M_11 (M_11.1 24 t) k1 (4 * t) hk1 hs1 hn1 (by omega)) rfl rfl (Nat.le_of_ble_eq_true rfl) ⟨Nat.le_of_ble_eq_true rfl, Nat.le_of_ble_eq_true rfl⟩ ⟨Nat.zero_le _, Nat.zero_le _⟩ dX8_finish_107 (fun M_13 H locs eM_13 w => ?_)
        refine lv_iinc (v := (nI (t + 1))) (lv' := [(4, .int (nI (t + 1))), (2, .long (x2_4)), (0, .ref (r (23))), (1, .ref (r (k1)))]) C.1 C.2.1 dX8_finish_110 hl (k := 0) rfl (nI_add t 1) (by decide) rfl (fun ls hl => ?_)
        refine lv_goto (tgt := 88) C.1 C.2.1 dX8_finish_113 (by decide) ?_
        have h9 : lv_has ls 5 [(4, .int (nI (t + 1))), (2, .long (x2_4)), (0, .ref (r (23))), (1, .ref (r (k1)))] := lv_sub hl [0, 1, 2, 3] rfl
        have hlZ : lv_has ls 5 [(4, .int (nI (t + 1))), (2, .long (x2_4)), (0, .ref (r (23))), (1, .ref (r (k1)))] := h9
        have wZ := w
        subst eM_11 eM_13
        refine ih (t + 1) (by omega) _ _ _ (wZ) ?_
        exact hlZ
    exact loop 8 0 (by omega) _ _ ls w hl
  · refine lv_aload_n C.1 C.2.1 dX8_finish_30 rfl (lv_at hl 0 rfl) ?_
    refine m_cvv C w hl cvX8_37 (k := 23) (by decide) rfl (q := (RX8, TX8, 5)) rfl rfl (As := []) (rest := []) (c_X8_fillSchedule l D b0 r M_2  ) rfl rfl (Nat.le_of_ble_eq_true rfl) ⟨Nat.le_of_ble_eq_true rfl, Nat.le_of_ble_eq_true rfl⟩ ⟨Nat.zero_le _, Nat.zero_le _⟩ dX8_finish_31 (fun M_14 H locs eM_14 w => ?_)
    refine lv_aload_n C.1 C.2.1 dX8_finish_34 rfl (lv_at hl 0 rfl) ?_
    refine m_cvv C w hl cvX8_40 (k := 23) (by decide) rfl (q := (RX8, TX8, 5)) rfl rfl (As := []) (rest := []) (c_X8_compress l D b0 r M_14  ) rfl rfl (Nat.le_of_ble_eq_true rfl) ⟨Nat.le_of_ble_eq_true rfl, Nat.le_of_ble_eq_true rfl⟩ ⟨Nat.zero_le _, Nat.zero_le _⟩ dX8_finish_35 (fun M_15 H locs eM_15 w => ?_)
    refine lv_aload_n C.1 C.2.1 dX8_finish_38 rfl (lv_at hl 0 rfl) ?_
    refine lv_iconst (v := 0) C.1 C.2.1 dX8_finish_39 (by decide) ?_
    refine m_cvv C w hl cvX8_43 (k := 23) (by decide) rfl (q := (RX8, TX8, 5)) rfl rfl (As := [.int 0]) (rest := []) (c_X8_clearBlock l D b0 r M_15 0 (by omega)) rfl rfl (Nat.le_of_ble_eq_true rfl) ⟨Nat.le_of_ble_eq_true rfl, Nat.le_of_ble_eq_true rfl⟩ ⟨Nat.zero_le _, Nat.zero_le _⟩ dX8_finish_40 (fun M_16 H locs eM_16 w => ?_)
    refine lv_aload_n C.1 C.2.1 dX8_finish_43 rfl (lv_at hl 0 rfl) ?_
    refine m_get C w (k := 23) (j := 4) (v := .long (M_16.2 23 4)) flX8_24 (by decide) rfl rfl dX8_finish_44 ?_
    refine lv_ldc2 (v := (8)) C.1 C.2.1 C.2.2.2.1 (C.2.2.2.2.1 _ klX8_47) dX8_finish_47 ?_
    refine lv_lmul C.1 C.2.1 dX8_finish_50 ?_
    refine lv_topl (fun x2_17 ex2_17 => ?_)
    refine lv_lstore_n (lv' := [(2, .long (x2_17)), (0, .ref (r (23))), (1, .ref (r (k1)))]) C.1 C.2.1 dX8_finish_51 rfl hl (by decide) rfl (fun ls hl => ?_)
    refine lv_lload_n C.1 C.2.1 dX8_finish_52 rfl (lv_at hl 0 rfl) ?_
    refine lv_bipush (v := 32) C.1 C.2.1 dX8_finish_53 (by decide) ?_
    refine lv_lushr (v := mm_ul (x2_17) (32 : Int32)) C.1 C.2.1 dX8_finish_55 rfl ?_
    refine lv_l2i (v := ((mm_ul (x2_17) (32 : Int32)) : Int64).toInt32) C.1 C.2.1 dX8_finish_56 rfl ?_
    refine lv_aload_n C.1 C.2.1 dX8_finish_57 rfl (lv_at hl 1 rfl) ?_
    refine m_get C w (k := 23) (j := 2) (v := .ref (r (26))) flX8_16 (by decide) rfl rfl dX8_finish_58 ?_
    refine lv_bipush (v := 56) C.1 C.2.1 dX8_finish_61 (by decide) ?_
    refine m_csv C w hl csX8_49 (As := [.int (((mm_ul (x2_17) (32 : Int32)) : Int64).toInt32), .ref (r (26)), .int 56]) (rest := []) (c_X1_storeBig l D b0 r M_16 (((mm_ul (x2_17) (32 : Int32)) : Int64).toInt32) 26 56 (by decide) rfl (by decide) (by omega)) rfl rfl (Nat.le_of_ble_eq_true rfl) ⟨Nat.le_of_ble_eq_true rfl, Nat.le_of_ble_eq_true rfl⟩ ⟨Nat.zero_le _, Nat.zero_le _⟩ dX8_finish_63 (fun M_18 H locs eM_18 w => ?_)
    refine lv_lload_n C.1 C.2.1 dX8_finish_66 rfl (lv_at hl 0 rfl) ?_
    refine lv_l2i (v := ((x2_17) : Int64).toInt32) C.1 C.2.1 dX8_finish_67 rfl ?_
    refine lv_aload_n C.1 C.2.1 dX8_finish_68 rfl (lv_at hl 1 rfl) ?_
    refine m_get C w (k := 23) (j := 2) (v := .ref (r (26))) flX8_16 (by decide) rfl rfl dX8_finish_69 ?_
    refine lv_bipush (v := 60) C.1 C.2.1 dX8_finish_72 (by decide) ?_
    refine m_csv C w hl csX8_49 (As := [.int (((x2_17) : Int64).toInt32), .ref (r (26)), .int 60]) (rest := []) (c_X1_storeBig l D b0 r M_18 (((x2_17) : Int64).toInt32) 26 60 (by decide) rfl (by decide) (by omega)) rfl rfl (Nat.le_of_ble_eq_true rfl) ⟨Nat.le_of_ble_eq_true rfl, Nat.le_of_ble_eq_true rfl⟩ ⟨Nat.zero_le _, Nat.zero_le _⟩ dX8_finish_74 (fun M_19 H locs eM_19 w => ?_)
    refine lv_aload_n C.1 C.2.1 dX8_finish_77 rfl (lv_at hl 1 rfl) ?_
    refine m_cvv C w hl cvX8_37 (k := 23) (by decide) rfl (q := (RX8, TX8, 5)) rfl rfl (As := []) (rest := []) (c_X8_fillSchedule l D b0 r M_19  ) rfl rfl (Nat.le_of_ble_eq_true rfl) ⟨Nat.le_of_ble_eq_true rfl, Nat.le_of_ble_eq_true rfl⟩ ⟨Nat.zero_le _, Nat.zero_le _⟩ dX8_finish_78 (fun M_20 H locs eM_20 w => ?_)
    refine lv_aload_n C.1 C.2.1 dX8_finish_81 rfl (lv_at hl 1 rfl) ?_
    refine m_cvv C w hl cvX8_40 (k := 23) (by decide) rfl (q := (RX8, TX8, 5)) rfl rfl (As := []) (rest := []) (c_X8_compress l D b0 r M_20  ) rfl rfl (Nat.le_of_ble_eq_true rfl) ⟨Nat.le_of_ble_eq_true rfl, Nat.le_of_ble_eq_true rfl⟩ ⟨Nat.zero_le _, Nat.zero_le _⟩ dX8_finish_82 (fun M_21 H locs eM_21 w => ?_)
    refine lv_iconst (v := 0) C.1 C.2.1 dX8_finish_85 (by decide) ?_
    refine lv_istore (lv' := [(4, .int 0), (2, .long (x2_17)), (0, .ref (r (23))), (1, .ref (r (k1)))]) C.1 C.2.1 dX8_finish_86 hl (by decide) rfl (fun ls hl => ?_)
    have loop : ∀ (k t : Nat), t + k = 8 → ∀ (H : Heap) (locs : List Loc) (ls : Array Slot), mm_W D b0 r (f_X8_finish_L88 k1 M_21 t) s H locs → lv_has ls 5 [(4, .int (nI (t))), (2, .long (x2_17)), (0, .ref (r (23))), (1, .ref (r (k1)))] → W p l e (mm_rm 2 55) s m args below meth c H locs 0 0 (MQ below (va_Qv (fun M' => M' = f_X8_finish k1 q M) (mm_U D b0 r) (fun q => b0 ≤ q)) args s 0 0 (fun q => b0 ≤ q)) (F0 m 88 ls []) := by
      intro k
      induction k with
      | zero =>
        intro t ht H locs ls w hl
        obtain rfl : 8 = t := by omega
        obtain ⟨M_22, eM_22⟩ : ∃ zz, zz = f_X8_finish_L88 k1 M_21 8 := ⟨_, rfl⟩
        rw [← eM_22] at w
        refine lv_iload C.1 C.2.1 dX8_finish_88 (lv_at hl 0 rfl) ?_
        refine lv_bipush (v := 8) C.1 C.2.1 dX8_finish_90 (by decide) ?_
        refine m_icmp_ge (tgt := 116) (a := 8) (b := 8) C (by omega) (by omega) dX8_finish_92 (by decide) (fun _ => ?_) (fun h_23 => absurd h_23 (by omega))
        exact m_vret C w (by subst eM_1 eM_2 eM_14 eM_15 eM_16 ex2_17 eM_18 eM_19 eM_20 eM_21 eM_22; exact Eq.symm (((if_neg (Nat.not_lt.mpr h_3)).trans rfl))) dX8_finish_116
      | succ k ih =>
        intro t ht H locs ls w hl
        obtain ⟨M_24, eM_24⟩ : ∃ zz, zz = f_X8_finish_L88 k1 M_21 t := ⟨_, rfl⟩
        rw [← eM_24] at w
        refine lv_iload C.1 C.2.1 dX8_finish_88 (lv_at hl 0 rfl) ?_
        refine lv_bipush (v := 8) C.1 C.2.1 dX8_finish_90 (by decide) ?_
        refine m_icmp_ge (tgt := 116) (a := t) (b := 8) C (by omega) (by omega) dX8_finish_92 (by decide) (fun h_25 => absurd h_25 (by omega)) (fun _ => ?_)
        refine lv_aload_n C.1 C.2.1 dX8_finish_95 rfl (lv_at hl 2 rfl) ?_
        refine m_get C w (k := 23) (j := 0) (v := .ref (r (24))) flX8_7 (by decide) rfl rfl dX8_finish_96 ?_
        refine lv_iload C.1 C.2.1 dX8_finish_99 (lv_at hl 0 rfl) ?_
        refine m_iald C w (k := 24) (i := t) (n := 8) (wr := true) (by decide) rfl (by omega) (by decide) dX8_finish_101 ?_
        refine lv_aload_n C.1 C.2.1 dX8_finish_102 rfl (lv_at hl 3 rfl) ?_
        refine lv_iconst (v := 4) C.1 C.2.1 dX8_finish_103 (by decide) ?_
        refine lv_iload C.1 C.2.1 dX8_finish_104 (lv_at hl 0 rfl) ?_
        refine lv_imul C.1 C.2.1 dX8_finish_106 ?_
        refine m_i (y := nI (4 * t)) (pk_mul 4 t) ?_
        refine m_csv C w hl csX8_49 (As := [.int (M_24.1 24 t), .ref (r (k1)), .int (nI (4 * t))]) (rest := []) (c_X1_storeBig l D b0 r M_24 (M_24.1 24 t) k1 (4 * t) hk1 hs1 hn1 (by omega)) rfl rfl (Nat.le_of_ble_eq_true rfl) ⟨Nat.le_of_ble_eq_true rfl, Nat.le_of_ble_eq_true rfl⟩ ⟨Nat.zero_le _, Nat.zero_le _⟩ dX8_finish_107 (fun M_26 H locs eM_26 w => ?_)
        refine lv_iinc (v := (nI (t + 1))) (lv' := [(4, .int (nI (t + 1))), (2, .long (x2_17)), (0, .ref (r (23))), (1, .ref (r (k1)))]) C.1 C.2.1 dX8_finish_110 hl (k := 0) rfl (nI_add t 1) (by decide) rfl (fun ls hl => ?_)
        refine lv_goto (tgt := 88) C.1 C.2.1 dX8_finish_113 (by decide) ?_
        have h9 : lv_has ls 5 [(4, .int (nI (t + 1))), (2, .long (x2_17)), (0, .ref (r (23))), (1, .ref (r (k1)))] := lv_sub hl [0, 1, 2, 3] rfl
        have hlZ : lv_has ls 5 [(4, .int (nI (t + 1))), (2, .long (x2_17)), (0, .ref (r (23))), (1, .ref (r (k1)))] := h9
        have wZ := w
        subst eM_24 eM_26
        refine ih (t + 1) (by omega) _ _ _ (wZ) ?_
        exact hlZ
    exact loop 8 0 (by omega) _ _ ls w hl
