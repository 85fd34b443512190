def f_X11_isKey (v1 : Int32) : Int32 :=
  if (v1) < (0 : Int32) then ((0 : Int32)) else (if (8 : Int32) ≤ (v1) then ((0 : Int32)) else ((1 : Int32)))
set_option maxHeartbeats 4000000 in
set_option maxRecDepth 100000 in
theorem c_X11_isKey (l : Launch) (D : va_G) (b0 : Nat) (r : Nat → Nat) (M : mm_M) (v1 : Int32)  : mm_Mi l yX11_isKey cX11_isKey 1 .boolean 0 0 D b0 r [.int (v1)] M (fun v M' => v = f_X11_isKey v1 ∧ M' = M) := by
  refine mm_enter (cc := cX11_isKey) (nL := 1) (ret := (some .boolean)) (by decide) (Nat.le_of_ble_eq_true rfl) ?_
  intro p e s m args below meth c C w ls hl
  have hl : lv_has ls 1 [(0, .int (v1))] := hl
  refine lv_iload_n C.1 C.2.1 dX11_isKey_0 rfl (lv_at hl 0 rfl) ?_
  refine lv_if_lt (tgt := 14) C.1 C.2.1 dX11_isKey_1 (by decide) (fun h_1 => ?_) (fun h_1 => ?_)
  · refine lv_iconst (v := 0) C.1 C.2.1 dX11_isKey_14 (by decide) ?_
    exact m_zret C w (by decide) ⟨by exact Eq.symm (((if_pos h_1).trans rfl)), rfl⟩ dX11_isKey_15
  · refine lv_iload_n C.1 C.2.1 dX11_isKey_4 rfl (lv_at hl 0 rfl) ?_
    refine lv_bipush (v := 8) C.1 C.2.1 dX11_isKey_5 (by decide) ?_
    refine lv_icmp_ge (tgt := 14) C.1 C.2.1 dX11_isKey_7 (by decide) (fun h_2 => ?_) (fun h_2 => ?_)
    · refine lv_iconst (v := 0) C.1 C.2.1 dX11_isKey_14 (by decide) ?_
      exact m_zret C w (by decide) ⟨by exact Eq.symm (((if_neg h_1).trans ((if_pos h_2).trans rfl))), rfl⟩ dX11_isKey_15
    · refine lv_iconst (v := 1) C.1 C.2.1 dX11_isKey_10 (by decide) ?_
      refine lv_goto (tgt := 15) C.1 C.2.1 dX11_isKey_11 (by decide) ?_
      exact m_zret C w (by decide) ⟨by exact Eq.symm (((if_neg h_1).trans ((if_neg h_2).trans rfl))), rfl⟩ dX11_isKey_15

def f_X11_isSession (v1 : Int32) : Int32 :=
  if (v1) < (0 : Int32) then ((0 : Int32)) else (if (4 : Int32) ≤ (v1) then ((0 : Int32)) else ((1 : Int32)))
set_option maxHeartbeats 4000000 in
set_option maxRecDepth 100000 in
theorem c_X11_isSession (l : Launch) (D : va_G) (b0 : Nat) (r : Nat → Nat) (M : mm_M) (v1 : Int32)  : mm_Mi l yX11_isSession cX11_isSession 1 .boolean 0 0 D b0 r [.int (v1)] M (fun v M' => v = f_X11_isSession v1 ∧ M' = M) := by
  refine mm_enter (cc := cX11_isSession) (nL := 1) (ret := (some .boolean)) (by decide) (Nat.le_of_ble_eq_true rfl) ?_
  intro p e s m args below meth c C w ls hl
  have hl : lv_has ls 1 [(0, .int (v1))] := hl
  refine lv_iload_n C.1 C.2.1 dX11_isSession_0 rfl (lv_at hl 0 rfl) ?_
  refine lv_if_lt (tgt := 13) C.1 C.2.1 dX11_isSession_1 (by decide) (fun h_1 => ?_) (fun h_1 => ?_)
  · refine lv_iconst (v := 0) C.1 C.2.1 dX11_isSession_13 (by decide) ?_
    exact m_zret C w (by decide) ⟨by exact Eq.symm (((if_pos h_1).trans rfl)), rfl⟩ dX11_isSession_14
  · refine lv_iload_n C.1 C.2.1 dX11_isSession_4 rfl (lv_at hl 0 rfl) ?_
    refine lv_iconst (v := 4) C.1 C.2.1 dX11_isSession_5 (by decide) ?_
    refine lv_icmp_ge (tgt := 13) C.1 C.2.1 dX11_isSession_6 (by decide) (fun h_2 => ?_) (fun h_2 => ?_)
    · refine lv_iconst (v := 0) C.1 C.2.1 dX11_isSession_13 (by decide) ?_
      exact m_zret C w (by decide) ⟨by exact Eq.symm (((if_neg h_1).trans ((if_pos h_2).trans rfl))), rfl⟩ dX11_isSession_14
    · refine lv_iconst (v := 1) C.1 C.2.1 dX11_isSession_9 (by decide) ?_
      refine lv_goto (tgt := 14) C.1 C.2.1 dX11_isSession_10 (by decide) ?_
      exact m_zret C w (by decide) ⟨by exact Eq.symm (((if_neg h_1).trans ((if_neg h_2).trans rfl))), rfl⟩ dX11_isSession_14

def f_X11_isOnTape (v1 : Int32) (M : mm_M) : Int32 :=
  if (v1) < (0 : Int32) then ((0 : Int32)) else (if (M.1 0 1) < (v1) then ((0 : Int32)) else ((1 : Int32)))
set_option maxHeartbeats 4000000 in
set_option maxRecDepth 100000 in
theorem c_X11_isOnTape (l : Launch) (D : va_G) (b0 : Nat) (r : Nat → Nat) (M : mm_M) (v1 : Int32)  : mm_Mi l yX11_isOnTape cX11_isOnTape 2 .boolean 0 0 D b0 r [.ref (r (0)), .int (v1)] M (fun v M' => v = f_X11_isOnTape v1 M ∧ M' = M) := by
  refine mm_enter (cc := cX11_isOnTape) (nL := 2) (ret := (some .boolean)) (by decide) (Nat.le_of_ble_eq_true rfl) ?_
  intro p e s m args below meth c C w ls hl
  have hl : lv_has ls 2 [(0, .ref (r (0))), (1, .int (v1))] := hl
  refine lv_iload_n C.1 C.2.1 dX11_isOnTape_0 rfl (lv_at hl 1 rfl) ?_
  refine lv_if_lt (tgt := 16) C.1 C.2.1 dX11_isOnTape_1 (by decide) (fun h_1 => ?_) (fun h_1 => ?_)
  · refine lv_iconst (v := 0) C.1 C.2.1 dX11_isOnTape_16 (by decide) ?_
    exact m_zret C w (by decide) ⟨by exact Eq.symm (((if_pos h_1).trans rfl)), rfl⟩ dX11_isOnTape_17
  · refine lv_iload_n C.1 C.2.1 dX11_isOnTape_4 rfl (lv_at hl 1 rfl) ?_
    refine lv_aload_n C.1 C.2.1 dX11_isOnTape_5 rfl (lv_at hl 0 rfl) ?_
    refine m_get C w (k := 0) (j := 1) (v := .int (M.1 0 1)) flX11_13 (by decide) rfl rfl dX11_isOnTape_6 ?_
    refine lv_icmp_gt (tgt := 16) C.1 C.2.1 dX11_isOnTape_9 (by decide) (fun h_2 => ?_) (fun h_2 => ?_)
    · refine lv_iconst (v := 0) C.1 C.2.1 dX11_isOnTape_16 (by decide) ?_
      exact m_zret C w (by decide) ⟨by exact Eq.symm (((if_neg h_1).trans ((if_pos h_2).trans rfl))), rfl⟩ dX11_isOnTape_17
    · refine lv_iconst (v := 1) C.1 C.2.1 dX11_isOnTape_12 (by decide) ?_
      refine lv_goto (tgt := 17) C.1 C.2.1 dX11_isOnTape_13 (by decide) ?_
      exact m_zret C w (by decide) ⟨by exact Eq.symm (((if_neg h_1).trans ((if_neg h_2).trans rfl))), rfl⟩ dX11_isOnTape_17

def f_X11_areOnTape (v1 : Int32) (v2 : Int32) (M : mm_M) : Int32 :=
  if (f_X11_isOnTape (v1) M) = (0 : Int32) then ((0 : Int32)) else (if (v2) < (0 : Int32) then ((0 : Int32)) else (if ((M.1 0 1) - (v1)) < (v2) then ((0 : Int32)) else ((1 : Int32))))
set_option maxHeartbeats 4000000 in
set_option maxRecDepth 100000 in
theorem c_X11_areOnTape (l : Launch) (D : va_G) (b0 : Nat) (r : Nat → Nat) (M : mm_M) (v1 : Int32) (v2 : Int32)  : mm_Mi l yX11_areOnTape cX11_areOnTape 3 .boolean 1 21 D b0 r [.ref (r (0)), .int (v1), .int (v2)] M (fun v M' => v = f_X11_areOnTape v1 v2 M ∧ M' = M) := by
  refine mm_enter (cc := cX11_areOnTape) (nL := 3) (ret := (some .boolean)) (by decide) (Nat.le_of_ble_eq_true rfl) ?_
  intro p e s m args below meth c C w ls hl
  have hl : lv_has ls 3 [(0, .ref (r (0))), (1, .int (v1)), (2, .int (v2))] := hl
  refine lv_aload_n C.1 C.2.1 dX11_areOnTape_0 rfl (lv_at hl 0 rfl) ?_
  refine lv_iload_n C.1 C.2.1 dX11_areOnTape_1 rfl (lv_at hl 1 rfl) ?_
  refine m_cvi C w hl cvX11_65 (k := 0) (by decide) rfl (q := (RX11, TX11, 7)) rfl rfl (As := [.int (v1)]) (rest := []) (c_X11_isOnTape l D b0 r M (v1) ) rfl rfl (Nat.le_of_ble_eq_true rfl) ⟨Nat.le_of_ble_eq_true rfl, Nat.le_of_ble_eq_true rfl⟩ ⟨Nat.zero_le _, Nat.zero_le _⟩ dX11_areOnTape_2 (fun v_1 M9 H locs e9 w => ?_)
  obtain ⟨ev_1, e9⟩ := e9
  rw [e9] at w
  subst ev_1
  refine lv_if_eq (tgt := 26) C.1 C.2.1 dX11_areOnTape_5 (by decide) (fun h_2 => ?_) (fun h_2 => ?_)
  · refine lv_iconst (v := 0) C.1 C.2.1 dX11_areOnTape_26 (by decide) ?_
    exact m_zret C w (by decide) ⟨by exact Eq.symm (((if_pos h_2).trans rfl)), rfl⟩ dX11_areOnTape_27
  · refine lv_iload_n C.1 C.2.1 dX11_areOnTape_8 rfl (lv_at hl 2 rfl) ?_
    refine lv_if_lt (tgt := 26) C.1 C.2.1 dX11_areOnTape_9 (by decide) (fun h_3 => ?_) (fun h_3 => ?_)
    · refine lv_iconst (v := 0) C.1 C.2.1 dX11_areOnTape_26 (by decide) ?_
      exact m_zret C w (by decide) ⟨by exact Eq.symm (((if_neg h_2).trans ((if_pos h_3).trans rfl))), rfl⟩ dX11_areOnTape_27
    · refine lv_iload_n C.1 C.2.1 dX11_areOnTape_12 rfl (lv_at hl 2 rfl) ?_
      refine lv_aload_n C.1 C.2.1 dX11_areOnTape_13 rfl (lv_at hl 0 rfl) ?_
      refine m_get C w (k := 0) (j := 1) (v := .int (M.1 0 1)) flX11_13 (by decide) rfl rfl dX11_areOnTape_14 ?_
      refine lv_iload_n C.1 C.2.1 dX11_areOnTape_17 rfl (lv_at hl 1 rfl) ?_
      refine lv_isub C.1 C.2.1 dX11_areOnTape_18 ?_
      refine lv_icmp_gt (tgt := 26) C.1 C.2.1 dX11_areOnTape_19 (by decide) (fun h_4 => ?_) (fun h_4 => ?_)
      · refine lv_iconst (v := 0) C.1 C.2.1 dX11_areOnTape_26 (by decide) ?_
        exact m_zret C w (by decide) ⟨by exact Eq.symm (((if_neg h_2).trans ((if_neg h_3).trans ((if_pos h_4).trans rfl)))), rfl⟩ dX11_areOnTape_27
      · refine lv_iconst (v := 1) C.1 C.2.1 dX11_areOnTape_22 (by decide) ?_
        refine lv_goto (tgt := 27) C.1 C.2.1 dX11_areOnTape_23 (by decide) ?_
        exact m_zret C w (by decide) ⟨by exact Eq.symm (((if_neg h_2).trans ((if_neg h_3).trans ((if_neg h_4).trans rfl)))), rfl⟩ dX11_areOnTape_27

def f_X11_emptyTape  (M : mm_M) : mm_M :=
  let M_1 := mm_w M 0 1 (0 : Int32)
  M_1
theorem w_f_X11_emptyTape  (M : mm_M) : mm_fr [0] M (f_X11_emptyTape  M) := by
  unfold f_X11_emptyTape
  exact (mm_fr_w (by simp) (mm_fr_refl _ _))
set_option maxHeartbeats 4000000 in
set_option maxRecDepth 100000 in
theorem c_X11_emptyTape (l : Launch) (D : va_G) (b0 : Nat) (r : Nat → Nat) (M : mm_M)   : mm_Mv l yX11_emptyTape cX11_emptyTape 1 0 0 D b0 r [.ref (r (0))] M (fun M' => M' = f_X11_emptyTape  M) := by
  refine mm_enter (cc := cX11_emptyTape) (nL := 1) (ret := none) (by decide) (Nat.le_of_ble_eq_true rfl) ?_
  intro p e s m args below meth c C w ls hl
  have hl : lv_has ls 1 [(0, .ref (r (0)))] := hl
  refine lv_aload_n C.1 C.2.1 dX11_emptyTape_0 rfl (lv_at hl 0 rfl) ?_
  refine lv_iconst (v := 0) C.1 C.2.1 dX11_emptyTape_1 (by decide) ?_
  refine m_puti C w (k := 0) (j := 1) (x := (0 : Int32)) rfl flX11_13w (by decide) rfl rfl dX11_emptyTape_2 (fun H locs w => ?_)
  obtain ⟨M_1, eM_1⟩ : ∃ zz, zz = mm_w M 0 1 (0 : Int32) := ⟨_, rfl⟩
  rw [← eM_1] at w
  exact m_vret C w (by subst eM_1; exact Eq.symm (rfl)) dX11_emptyTape_5

def f_X11_tell (v1 : Int32) (M : mm_M) : Int32 × mm_M :=
  if (v1) = (-1 : Int32) then (((v1), M)) else (let M_2 := mm_w M 0 3 (v1)
  ((v1), M_2))
theorem w_f_X11_tell (v1 : Int32) (M : mm_M) : mm_fr2 [0] M (f_X11_tell v1 M) := by
  unfold f_X11_tell
  exact (mm_fr_ite2 (fun _ => (mm_fr_refl _ _).b) (fun _ => (mm_fr_w (by simp) (mm_fr_refl _ _)).b))
set_option maxHeartbeats 4000000 in
set_option maxRecDepth 100000 in
theorem c_X11_tell (l : Launch) (D : va_G) (b0 : Nat) (r : Nat → Nat) (M : mm_M) (v1 : Int32)  : mm_Mi l yX11_tell cX11_tell 2 .int 0 0 D b0 r [.ref (r (0)), .int (v1)] M (fun v M' => (v, M') = f_X11_tell v1 M) := by
  refine mm_enter (cc := cX11_tell) (nL := 2) (ret := (some .int)) (by decide) (Nat.le_of_ble_eq_true rfl) ?_
  intro p e s m args below meth c C w ls hl
  have hl : lv_has ls 2 [(0, .ref (r (0))), (1, .int (v1))] := hl
  refine lv_iload_n C.1 C.2.1 dX11_tell_0 rfl (lv_at hl 1 rfl) ?_
  refine lv_iconst (v := (-1)) C.1 C.2.1 dX11_tell_1 (by decide) ?_
  refine lv_icmp_eq (tgt := 10) C.1 C.2.1 dX11_tell_2 (by decide) (fun h_1 => ?_) (fun h_1 => ?_)
  · refine lv_iload_n C.1 C.2.1 dX11_tell_10 rfl (lv_at hl 1 rfl) ?_
    exact m_iret C w (by exact Eq.symm (((if_pos h_1).trans rfl))) dX11_tell_11
  · refine lv_aload_n C.1 C.2.1 dX11_tell_5 rfl (lv_at hl 0 rfl) ?_
    refine lv_iload_n C.1 C.2.1 dX11_tell_6 rfl (lv_at hl 1 rfl) ?_
    refine m_puti C w (k := 0) (j := 3) (x := (v1)) rfl flX11_20w (by decide) rfl rfl dX11_tell_7 (fun H locs w => ?_)
    obtain ⟨M_2, eM_2⟩ : ∃ zz, zz = mm_w M 0 3 (v1) := ⟨_, rfl⟩
    rw [← eM_2] at w
    refine lv_iload_n C.1 C.2.1 dX11_tell_10 rfl (lv_at hl 1 rfl) ?_
    exact m_iret C w (by subst eM_2; exact Eq.symm (((if_neg h_1).trans rfl))) dX11_tell_11

def f_X11_tellRow (k1 : Nat) (M : mm_M) : Int32 × mm_M :=
  let M_1 := mm_cp M k1 0 2 0 32
  let v_3 := (f_X11_tell (32 : Int32) M_1).1
  let M_2 := (f_X11_tell (32 : Int32) M_1).2
  ((v_3), M_2)
theorem w_f_X11_tellRow (k1 : Nat) (M : mm_M) : mm_fr2 [2, 0] M (f_X11_tellRow k1 M) := by
  unfold f_X11_tellRow
  exact ((w_f_X11_tell _ _).m.on (by simp) (mm_fr_cp (by simp) (mm_fr_refl _ _))).b
set_option maxHeartbeats 4000000 in
set_option maxRecDepth 100000 in
theorem c_X11_tellRow (l : Launch) (D : va_G) (b0 : Nat) (r : Nat → Nat) (M : mm_M) (k1 : Nat) {n1 : Nat} {w1 : Bool} (hk1 : k1 < 181) (hs1 : mm_sh k1 = .inl (.byte, n1, w1)) (hn1 : n1 < 2 ^ 31) (hp1 : 32 ≤ n1) : mm_Mi l yX11_tellRow cX11_tellRow 2 .int 1 48 D b0 r [.ref (r (0)), .ref (r (k1))] M (fun v M' => (v, M') = f_X11_tellRow k1 M) := by
  refine mm_enter (cc := cX11_tellRow) (nL := 2) (ret := (some .int)) (by decide) (Nat.le_of_ble_eq_true rfl) ?_
  intro p e s m args below meth c C w ls hl
  have hl : lv_has ls 2 [(0, .ref (r (0))), (1, .ref (r (k1)))] := hl
  refine lv_aload_n C.1 C.2.1 dX11_tellRow_0 rfl (lv_at hl 1 rfl) ?_
  refine lv_iconst (v := 0) C.1 C.2.1 dX11_tellRow_1 (by decide) ?_
  refine lv_aload_n C.1 C.2.1 dX11_tellRow_2 rfl (lv_at hl 0 rfl) ?_
  refine m_get C w (k := 0) (j := 2) (v := .ref (r (2))) flX11_17 (by decide) rfl rfl dX11_tellRow_3 ?_
  refine lv_iconst (v := 0) C.1 C.2.1 dX11_tellRow_6 (by decide) ?_
  refine lv_bipush (v := 32) C.1 C.2.1 dX11_tellRow_7 (by decide) ?_
  refine m_cpb C w hl (k := k1) (k2 := 2) (sp := 0) (dp := 0) (n := 32) hk1 hs1 hn1 (by decide) rfl (by decide) acX11_55 (by omega) (by omega) (Nat.le_of_ble_eq_true rfl) (Nat.le_of_ble_eq_true rfl) dX11_tellRow_9 (fun H locs w => ?_)
  obtain ⟨M_1, eM_1⟩ : ∃ zz, zz = mm_cp M k1 0 2 0 32 := ⟨_, rfl⟩
  rw [← eM_1] at w
  refine lv_aload_n C.1 C.2.1 dX11_tellRow_12 rfl (lv_at hl 0 rfl) ?_
  refine lv_bipush (v := 32) C.1 C.2.1 dX11_tellRow_13 (by decide) ?_
  refine m_cvi C w hl cvX11_106 (k := 0) (by decide) rfl (q := (RX11, TX11, 7)) rfl rfl (As := [.int 32]) (rest := []) (c_X11_tell l D b0 r M_1 (32 : Int32) ) rfl rfl (Nat.le_of_ble_eq_true rfl) ⟨Nat.le_of_ble_eq_true rfl, Nat.le_of_ble_eq_true rfl⟩ ⟨Nat.zero_le _, Nat.zero_le _⟩ dX11_tellRow_15 (fun v_3 M_2 H locs e9 w => ?_)
  obtain ⟨ev_3, eM_2⟩ : v_3 = (f_X11_tell (32 : Int32) M_1).1 ∧ M_2 = (f_X11_tell (32 : Int32) M_1).2 := ⟨congrArg Prod.fst e9, congrArg Prod.snd e9⟩
  clear e9
  exact m_iret C w (by subst eM_1 ev_3 eM_2; exact Eq.symm (rfl)) dX11_tellRow_18

theorem mm_nat {v : Int32} {n : Nat} (hn : n < 2 ^ 31) (h0 : ¬ v < 0) (h1 : ¬ nI n ≤ v) : v = nI v.toNatClampNeg ∧ v.toNatClampNeg < n := by
  rcases pk_ix v hn with h | h | ⟨j, hj, rfl⟩
  · exact absurd h h0
  · exact absurd h h1
  · rw [nI_clamp (by omega)]; exact ⟨rfl, hj⟩
theorem g_isKey {v : Int32} (h : ¬ f_X11_isKey v = 0) : v = nI v.toNatClampNeg ∧ v.toNatClampNeg < 8 := by
  unfold f_X11_isKey at h
  by_cases h0 : v < 0
  · rw [if_pos h0] at h; exact absurd rfl h
  · by_cases h1 : (8 : Int32) ≤ v
    · rw [if_neg h0, if_pos h1] at h; exact absurd rfl h
    · exact mm_nat (by decide) h0 h1
theorem g_isSession {v : Int32} (h : ¬ f_X11_isSession v = 0) : v = nI v.toNatClampNeg ∧ v.toNatClampNeg < 4 := by
  unfold f_X11_isSession at h
  by_cases h0 : v < 0
  · rw [if_pos h0] at h; exact absurd rfl h
  · by_cases h1 : (4 : Int32) ≤ v
    · rw [if_neg h0, if_pos h1] at h; exact absurd rfl h
    · exact mm_nat (by decide) h0 h1
theorem g_isOnTape {v : Int32} {M : mm_M} {ts : Nat} (hts : ts ≤ 1000) (h1 : M.1 0 1 = nI ts) (h : ¬ f_X11_isOnTape v M = 0) : v = nI v.toNatClampNeg ∧ v.toNatClampNeg ≤ ts := by
  unfold f_X11_isOnTape at h
  rw [h1] at h
  by_cases h0 : v < 0
  · rw [if_pos h0] at h; exact absurd rfl h
  · by_cases h2 : nI ts < v
    · rw [if_neg h0, if_pos h2] at h; exact absurd rfl h
    · have h3 : ¬ nI (ts + 1) ≤ v := by
        intro q
        rcases pk_ix v (show ts + 1 < 2 ^ 31 by omega) with h | h | ⟨j, hj, rfl⟩
        · exact h0 h
        · apply h2
          rw [Int32.lt_iff_toInt_lt, nI_toInt (by omega)]
          rw [Int32.le_iff_toInt_le, nI_toInt (by omega)] at h
          omega
        · exact absurd ((nI_leI (by omega) (by omega)).mp q) (by omega)
      obtain ⟨a, b⟩ := mm_nat (show ts + 1 < 2 ^ 31 by omega) h0 h3
      exact ⟨a, by omega⟩

def f_X11_feed (v1 : Int32) (v2 : Int32) (v3 : Int32) (v4 : Int32) (v5 : Int32) (ts : Nat) (M : mm_M) : Int32 × mm_M :=
  if ts ≤ 980 then (let M_2 := f_X1_storeBig (v1) 1 ts M
  let M_3 := f_X1_storeBig (v2) 1 (ts + 4) M_2
  let M_4 := f_X1_storeBig (v3) 1 (ts + 8) M_3
  let M_5 := f_X1_storeBig (v4) 1 (ts + 12) M_4
  let M_6 := f_X1_storeBig (v5) 1 (ts + 16) M_5
  let M_7 := mm_w M_6 0 1 (nI (ts + 20))
  ((nI (ts + 20)), M_7)) else (((-1 : Int32), M))
theorem w_f_X11_feed (v1 : Int32) (v2 : Int32) (v3 : Int32) (v4 : Int32) (v5 : Int32) (ts : Nat) (M : mm_M) : mm_fr2 [1, 0] M (f_X11_feed v1 v2 v3 v4 v5 ts M) := by
  unfold f_X11_feed
  exact (mm_fr_ite2 (fun _ => (mm_fr_w (by simp) ((w_f_X1_storeBig _ _ _ _).on (by simp) ((w_f_X1_storeBig _ _ _ _).on (by simp) ((w_f_X1_storeBig _ _ _ _).on (by simp) ((w_f_X1_storeBig _ _ _ _).on (by simp) ((w_f_X1_storeBig _ _ _ _).on (by simp) (mm_fr_refl _ _))))))).b) (fun _ => (mm_fr_refl _ _).b))
set_option maxHeartbeats 4000000 in
set_option maxRecDepth 100000 in
theorem c_X11_feed (l : Launch) (D : va_G) (b0 : Nat) (r : Nat → Nat) (M : mm_M) (v1 : Int32) (v2 : Int32) (v3 : Int32) (v4 : Int32) (v5 : Int32) (ts : Nat) (hts : ts ≤ 1000) (h1 : M.1 0 1 = nI ts) : mm_Mi l yX11_feed cX11_feed 6 .int 1 22 D b0 r [.ref (r (0)), .int (v1), .int (v2), .int (v3), .int (v4), .int (v5)] M (fun v M' => (v, M') = f_X11_feed v1 v2 v3 v4 v5 ts M) := by
  refine mm_enter (cc := cX11_feed) (nL := 6) (ret := (some .int)) (by decide) (Nat.le_of_ble_eq_true rfl) ?_
  intro p e s m args below meth c C w ls hl
  have hl : lv_has ls 6 [(0, .ref (r (0))), (1, .int (v1)), (2, .int (v2)), (3, .int (v3)), (4, .int (v4)), (5, .int (v5))] := hl
  refine lv_aload_n C.1 C.2.1 dX11_feed_0 rfl (lv_at hl 0 rfl) ?_
  refine m_get C w (k := 0) (j := 1) (v := .int (M.1 0 1)) flX11_13 (by decide) rfl rfl dX11_feed_1 ?_
  refine m_i (y := nI (ts)) h1 ?_
  refine lv_sipush (v := 980) C.1 C.2.1 dX11_feed_4 (by decide) ?_
  refine m_icmp_le (tgt := 12) (a := ts) (b := 980) C (by omega) (by omega) dX11_feed_7 (by decide) (fun h_1 => ?_) (fun h_1 => ?_)
  · refine lv_iload_n C.1 C.2.1 dX11_feed_12 rfl (lv_at hl 1 rfl) ?_
    refine lv_aload_n C.1 C.2.1 dX11_feed_13 rfl (lv_at hl 0 rfl) ?_
    refine m_get C w (k := 0) (j := 0) (v := .ref (r (1))) flX11_9 (by decide) rfl rfl dX11_feed_14 ?_
    refine lv_aload_n C.1 C.2.1 dX11_feed_17 rfl (lv_at hl 0 rfl) ?_
    refine m_get C w (k := 0) (j := 1) (v := .int (M.1 0 1)) flX11_13 (by decide) rfl rfl dX11_feed_18 ?_
    refine m_i (y := nI (ts)) h1 ?_
    refine m_csv C w hl csX11_49 (As := [.int (v1), .ref (r (1)), .int (nI (ts))]) (rest := []) (c_X1_storeBig l D b0 r M (v1) 1 ts (by decide) rfl (by decide) (by omega)) rfl rfl (Nat.le_of_ble_eq_true rfl) ⟨Nat.le_of_ble_eq_true rfl, Nat.le_of_ble_eq_true rfl⟩ ⟨Nat.zero_le _, Nat.zero_le _⟩ dX11_feed_21 (fun M_2 H locs eM_2 w => ?_)
    refine lv_iload_n C.1 C.2.1 dX11_feed_24 rfl (lv_at hl 2 rfl) ?_
    refine lv_aload_n C.1 C.2.1 dX11_feed_25 rfl (lv_at hl 0 rfl) ?_
    refine m_get C w (k := 0) (j := 0) (v := .ref (r (1))) flX11_9 (by decide) rfl rfl dX11_feed_26 ?_
    refine lv_aload_n C.1 C.2.1 dX11_feed_29 rfl (lv_at hl 0 rfl) ?_
    refine m_get C w (k := 0) (j := 1) (v := .int (M_2.1 0 1)) flX11_13 (by decide) rfl rfl dX11_feed_30 ?_
    refine m_i (y := nI (ts)) (by have hf : mm_fr [1] M M_2 := (by subst eM_2; exact ((w_f_X1_storeBig _ _ _ _).on (by simp) (mm_fr_refl _ _))); rw [(hf 0 (by simp)).1]; exact h1) ?_
    refine lv_iconst (v := 4) C.1 C.2.1 dX11_feed_33 (by decide) ?_
    refine lv_iadd C.1 C.2.1 dX11_feed_34 ?_
    refine m_i (y := nI (ts + 4)) (nI_add ts 4) ?_
    refine m_csv C w hl csX11_49 (As := [.int (v2), .ref (r (1)), .int (nI (ts + 4))]) (rest := []) (c_X1_storeBig l D b0 r M_2 (v2) 1 (ts + 4) (by decide) rfl (by decide) (by omega)) rfl rfl (Nat.le_of_ble_eq_true rfl) ⟨Nat.le_of_ble_eq_true rfl, Nat.le_of_ble_eq_true rfl⟩ ⟨Nat.zero_le _, Nat.zero_le _⟩ dX11_feed_35 (fun M_3 H locs eM_3 w => ?_)
    refine lv_iload_n C.1 C.2.1 dX11_feed_38 rfl (lv_at hl 3 rfl) ?_
    refine lv_aload_n C.1 C.2.1 dX11_feed_39 rfl (lv_at hl 0 rfl) ?_
    refine m_get C w (k := 0) (j := 0) (v := .ref (r (1))) flX11_9 (by decide) rfl rfl dX11_feed_40 ?_
    refine lv_aload_n C.1 C.2.1 dX11_feed_43 rfl (lv_at hl 0 rfl) ?_
    refine m_get C w (k := 0) (j := 1) (v := .int (M_3.1 0 1)) flX11_13 (by decide) rfl rfl dX11_feed_44 ?_
    refine m_i (y := nI (ts)) (by have hf : mm_fr [1] M M_3 := (by subst eM_2 eM_3; exact ((w_f_X1_storeBig _ _ _ _).on (by simp) ((w_f_X1_storeBig _ _ _ _).on (by simp) (mm_fr_refl _ _)))); rw [(hf 0 (by simp)).1]; exact h1) ?_
    refine lv_bipush (v := 8) C.1 C.2.1 dX11_feed_47 (by decide) ?_
    refine lv_iadd C.1 C.2.1 dX11_feed_49 ?_
    refine m_i (y := nI (ts + 8)) (nI_add ts 8) ?_
    refine m_csv C w hl csX11_49 (As := [.int (v3), .ref (r (1)), .int (nI (ts + 8))]) (rest := []) (c_X1_storeBig l D b0 r M_3 (v3) 1 (ts + 8) (by decide) rfl (by decide) (by omega)) rfl rfl (Nat.le_of_ble_eq_true rfl) ⟨Nat.le_of_ble_eq_true rfl, Nat.le_of_ble_eq_true rfl⟩ ⟨Nat.zero_le _, Nat.zero_le _⟩ dX11_feed_50 (fun M_4 H locs eM_4 w => ?_)
    refine lv_iload C.1 C.2.1 dX11_feed_53 (lv_at hl 4 rfl) ?_
    refine lv_aload_n C.1 C.2.1 dX11_feed_55 rfl (lv_at hl 0 rfl) ?_
    refine m_get C w (k := 0) (j := 0) (v := .ref (r (1))) flX11_9 (by decide) rfl rfl dX11_feed_56 ?_
    refine lv_aload_n C.1 C.2.1 dX11_feed_59 rfl (lv_at hl 0 rfl) ?_
    refine m_get C w (k := 0) (j := 1) (v := .int (M_4.1 0 1)) flX11_13 (by decide) rfl rfl dX11_feed_60 ?_
    refine m_i (y := nI (ts)) (by have hf : mm_fr [1] M M_4 := (by subst eM_2 eM_3 eM_4; exact ((w_f_X1_storeBig _ _ _ _).on (by simp) ((w_f_X1_storeBig _ _ _ _).on (by simp) ((w_f_X1_storeBig _ _ _ _).on (by simp) (mm_fr_refl _ _))))); rw [(hf 0 (by simp)).1]; exact h1) ?_
    refine lv_bipush (v := 12) C.1 C.2.1 dX11_feed_63 (by decide) ?_
    refine lv_iadd C.1 C.2.1 dX11_feed_65 ?_
    refine m_i (y := nI (ts + 12)) (nI_add ts 12) ?_
    refine m_csv C w hl csX11_49 (As := [.int (v4), .ref (r (1)), .int (nI (ts + 12))]) (rest := []) (c_X1_storeBig l D b0 r M_4 (v4) 1 (ts + 12) (by decide) rfl (by decide) (by omega)) rfl rfl (Nat.le_of_ble_eq_true rfl) ⟨Nat.le_of_ble_eq_true rfl, Nat.le_of_ble_eq_true rfl⟩ ⟨Nat.zero_le _, Nat.zero_le _⟩ dX11_feed_66 (fun M_5 H locs eM_5 w => ?_)
    refine lv_iload C.1 C.2.1 dX11_feed_69 (lv_at hl 5 rfl) ?_
    refine lv_aload_n C.1 C.2.1 dX11_feed_71 rfl (lv_at hl 0 rfl) ?_
    refine m_get C w (k := 0) (j := 0) (v := .ref (r (1))) flX11_9 (by decide) rfl rfl dX11_feed_72 ?_
    refine lv_aload_n C.1 C.2.1 dX11_feed_75 rfl (lv_at hl 0 rfl) ?_
    refine m_get C w (k := 0) (j := 1) (v := .int (M_5.1 0 1)) flX11_13 (by decide) rfl rfl dX11_feed_76 ?_
    refine m_i (y := nI (ts)) (by have hf : mm_fr [1] M M_5 := (by subst eM_2 eM_3 eM_4 eM_5; exact ((w_f_X1_storeBig _ _ _ _).on (by simp) ((w_f_X1_storeBig _ _ _ _).on (by simp) ((w_f_X1_storeBig _ _ _ _).on (by simp) ((w_f_X1_storeBig _ _ _ _).on (by simp) (mm_fr_refl _ _)))))); rw [(hf 0 (by simp)).1]; exact h1) ?_
    refine lv_bipush (v := 16) C.1 C.2.1 dX11_feed_79 (by decide) ?_
    refine lv_iadd C.1 C.2.1 dX11_feed_81 ?_
    refine m_i (y := nI (ts + 16)) (nI_add ts 16) ?_
    refine m_csv C w hl csX11_49 (As := [.int (v5), .ref (r (1)), .int (nI (ts + 16))]) (rest := []) (c_X1_storeBig l D b0 r M_5 (v5) 1 (ts + 16) (by decide) rfl (by decide) (by omega)) rfl rfl (Nat.le_of_ble_eq_true rfl) ⟨Nat.le_of_ble_eq_true rfl, Nat.le_of_ble_eq_true rfl⟩ ⟨Nat.zero_le _, Nat.zero_le _⟩ dX11_feed_82 (fun M_6 H locs eM_6 w => ?_)
    refine lv_aload_n C.1 C.2.1 dX11_feed_85 rfl (lv_at hl 0 rfl) ?_
    refine lv_dup C.1 C.2.1 dX11_feed_86 rfl ?_
    refine m_get C w (k := 0) (j := 1) (v := .int (M_6.1 0 1)) flX11_13 (by decide) rfl rfl dX11_feed_87 ?_
    refine m_i (y := nI (ts)) (by have hf : mm_fr [1] M M_6 := (by subst eM_2 eM_3 eM_4 eM_5 eM_6; exact ((w_f_X1_storeBig _ _ _ _).on (by simp) ((w_f_X1_storeBig _ _ _ _).on (by simp) ((w_f_X1_storeBig _ _ _ _).on (by simp) ((w_f_X1_storeBig _ _ _ _).on (by simp) ((w_f_X1_storeBig _ _ _ _).on (by simp) (mm_fr_refl _ _))))))); rw [(hf 0 (by simp)).1]; exact h1) ?_
    refine lv_bipush (v := 20) C.1 C.2.1 dX11_feed_90 (by decide) ?_
    refine lv_iadd C.1 C.2.1 dX11_feed_92 ?_
    refine m_i (y := nI (ts + 20)) (nI_add ts 20) ?_
    refine m_puti C w (k := 0) (j := 1) (x := (nI (ts + 20))) rfl flX11_13w (by decide) rfl rfl dX11_feed_93 (fun H locs w => ?_)
    obtain ⟨M_7, eM_7⟩ : ∃ zz, zz = mm_w M_6 0 1 (nI (ts + 20)) := ⟨_, rfl⟩
    rw [← eM_7] at w
    refine lv_aload_n C.1 C.2.1 dX11_feed_96 rfl (lv_at hl 0 rfl) ?_
    refine m_get C w (k := 0) (j := 1) (v := .int (M_7.1 0 1)) flX11_13 (by decide) rfl rfl dX11_feed_97 ?_
    refine m_i (y := nI (ts + 20)) (by rw [eM_7]; simp [mm_w]) ?_
    exact m_iret C w (by subst eM_2 eM_3 eM_4 eM_5 eM_6 eM_7; exact Eq.symm (((if_pos h_1).trans rfl))) dX11_feed_100
  · refine lv_iconst (v := (-1)) C.1 C.2.1 dX11_feed_10 (by decide) ?_
    exact m_iret C w (by exact Eq.symm (((if_neg (Nat.not_le.mpr h_1)).trans rfl))) dX11_feed_11

def f_X11_turn (rs : Nat) (M : mm_M) : Int32 × mm_M :=
  let M_1 := mm_cp M 2 0 1 0 rs
  let M_2 := mm_w M_1 0 1 (nI (rs))
  ((nI (rs)), M_2)
theorem w_f_X11_turn (rs : Nat) (M : mm_M) : mm_fr2 [1, 0] M (f_X11_turn rs M) := by
  unfold f_X11_turn
  exact (mm_fr_w (by simp) (mm_fr_cp (by simp) (mm_fr_refl _ _))).b
set_option maxHeartbeats 4000000 in
set_option maxRecDepth 100000 in
theorem c_X11_turn (l : Launch) (D : va_G) (b0 : Nat) (r : Nat → Nat) (M : mm_M) (rs : Nat) (hrs : rs ≤ 1000) (h3 : M.1 0 3 = nI rs) : mm_Mi l yX11_turn cX11_turn 1 .int 1 48 D b0 r [.ref (r (0))] M (fun v M' => (v, M') = f_X11_turn rs M) := by
  refine mm_enter (cc := cX11_turn) (nL := 1) (ret := (some .int)) (by decide) (Nat.le_of_ble_eq_true rfl) ?_
  intro p e s m args below meth c C w ls hl
  have hl : lv_has ls 1 [(0, .ref (r (0)))] := hl
  refine lv_aload_n C.1 C.2.1 dX11_turn_0 rfl (lv_at hl 0 rfl) ?_
  refine m_get C w (k := 0) (j := 2) (v := .ref (r (2))) flX11_17 (by decide) rfl rfl dX11_turn_1 ?_
  refine lv_iconst (v := 0) C.1 C.2.1 dX11_turn_4 (by decide) ?_
  refine lv_aload_n C.1 C.2.1 dX11_turn_5 rfl (lv_at hl 0 rfl) ?_
  refine m_get C w (k := 0) (j := 0) (v := .ref (r (1))) flX11_9 (by decide) rfl rfl dX11_turn_6 ?_
  refine lv_iconst (v := 0) C.1 C.2.1 dX11_turn_9 (by decide) ?_
  refine lv_aload_n C.1 C.2.1 dX11_turn_10 rfl (lv_at hl 0 rfl) ?_
  refine m_get C w (k := 0) (j := 3) (v := .int (M.1 0 3)) flX11_20 (by decide) rfl rfl dX11_turn_11 ?_
  refine m_i (y := nI (rs)) h3 ?_
  refine m_cpb C w hl (k := 2) (k2 := 1) (sp := 0) (dp := 0) (n := rs) (by decide) rfl (by decide) (by decide) rfl (by decide) acX11_55 (by omega) (by omega) (Nat.le_of_ble_eq_true rfl) (Nat.le_of_ble_eq_true rfl) dX11_turn_14 (fun H locs w => ?_)
  obtain ⟨M_1, eM_1⟩ : ∃ zz, zz = mm_cp M 2 0 1 0 rs := ⟨_, rfl⟩
  rw [← eM_1] at w
  refine lv_aload_n C.1 C.2.1 dX11_turn_17 rfl (lv_at hl 0 rfl) ?_
  refine lv_aload_n C.1 C.2.1 dX11_turn_18 rfl (lv_at hl 0 rfl) ?_
  refine m_get C w (k := 0) (j := 3) (v := .int (M_1.1 0 3)) flX11_20 (by decide) rfl rfl dX11_turn_19 ?_
  refine m_i (y := nI (rs)) (by have hf : mm_fr [1] M M_1 := (by subst eM_1; exact (mm_fr_cp (by simp) (mm_fr_refl _ _))); rw [(hf 0 (by simp)).1]; exact h3) ?_
  refine m_puti C w (k := 0) (j := 1) (x := (nI (rs))) rfl flX11_13w (by decide) rfl rfl dX11_turn_22 (fun H locs w => ?_)
  obtain ⟨M_2, eM_2⟩ : ∃ zz, zz = mm_w M_1 0 1 (nI (rs)) := ⟨_, rfl⟩
  rw [← eM_2] at w
  refine lv_aload_n C.1 C.2.1 dX11_turn_25 rfl (lv_at hl 0 rfl) ?_
  refine m_get C w (k := 0) (j := 1) (v := .int (M_2.1 0 1)) flX11_13 (by decide) rfl rfl dX11_turn_26 ?_
  refine m_i (y := nI (rs)) (by rw [eM_2]; simp [mm_w]) ?_
  exact m_iret C w (by subst eM_1 eM_2; exact Eq.symm (rfl)) dX11_turn_29
