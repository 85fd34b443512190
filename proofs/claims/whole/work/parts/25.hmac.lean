theorem r_X8_reset (M : mm_M) : (f_X8_reset M).1 23 3 = nI 0 := by
  simp [f_X8_reset, mm_w, mm_wl, mm_cp]
  rfl
theorem r_X8_absorb (k1 p1 p2 q : Nat) (hq : q < 64) (M : mm_M) (h0 : M.1 23 3 = nI q) : (f_X8_absorb k1 p1 p2 q M).1 23 3 = nI ((q + p2) % 64) := i_X8_absorb k1 p1 q hq M h0 p2

def f_X5_begin_B1 (k1 : Nat) (t : Nat) (M_5 : mm_M) : mm_M :=
  if 32 ≤ t then (let M_8 := mm_w M_5 28 t (mm_b (54 : Int32))
  M_8) else (let M_9 := mm_w M_5 28 t (mm_b ((M_5.1 k1 t) ^^^ (54 : Int32)))
  M_9)
theorem w_f_X5_begin_B1 (k1 : Nat) (t : Nat) (M_5 : mm_M) : mm_fr [28] M_5 (f_X5_begin_B1 k1 t M_5) := by
  unfold f_X5_begin_B1
  exact (mm_fr_ite (fun _ => (mm_fr_w (by simp) (mm_fr_refl _ _))) (fun _ => (mm_fr_w (by simp) (mm_fr_refl _ _))))
def f_X5_begin_L2 (k1 : Nat) (σ : mm_M) : Nat → mm_M
  | 0 => σ
  | t + 1 =>
  let M_5 := f_X5_begin_L2 k1 σ t
  f_X5_begin_B1 k1 t M_5
theorem w_f_X5_begin_L2 (k1 : Nat) (σ : mm_M) : ∀ t : Nat, mm_fr [28] σ (f_X5_begin_L2 k1 σ t)
  | 0 => mm_fr_refl _ _
  | t + 1 => have ih := w_f_X5_begin_L2 k1 σ t
    ((w_f_X5_begin_B1 _ _ _).on (by simp) ih)
def f_X5_begin (k1 : Nat) (M : mm_M) : mm_M :=
  let M_1 := f_X5_begin_L2 k1 M 64
  let M_3 := f_X8_reset M_1
  let M_4 := f_X8_absorb 28 0 64 0 M_3
  M_4
theorem w_f_X5_begin (k1 : Nat) (M : mm_M) : mm_fr [24, 23, 26, 25, 28] M (f_X5_begin k1 M) := by
  unfold f_X5_begin
  exact ((w_f_X8_absorb _ _ _ _ _).on (by simp) ((w_f_X8_reset _).on (by simp) ((w_f_X5_begin_L2 _ _ 64).on (by simp) (mm_fr_refl _ _))))
set_option maxHeartbeats 4000000 in
set_option maxRecDepth 100000 in
theorem c_X5_begin (l : Launch) (D : va_G) (b0 : Nat) (r : Nat → Nat) (M : mm_M) (k1 : Nat) {n1 : Nat} {w1 : Bool} (hk1 : k1 < 181) (hs1 : mm_sh k1 = .inl (.byte, n1, w1)) (hn1 : n1 < 2 ^ 31) (hp1 : 32 ≤ n1) : mm_Mv l yX5_begin cX5_begin 3 3 79 D b0 r [.ref (r (27)), .ref (r (k1))] M (fun M' => M' = f_X5_begin k1 M) := by
  refine mm_enter (cc := cX5_begin) (nL := 3) (ret := none) (by decide) (Nat.le_of_ble_eq_true rfl) ?_
  intro p e s m args below meth c C w ls hl
  have hl : lv_has ls 3 [(0, .ref (r (27))), (1, .ref (r (k1)))] := hl
  refine lv_iconst (v := 0) C.1 C.2.1 dX5_begin_0 (by decide) ?_
  refine lv_istore_n (lv' := [(2, .int 0), (0, .ref (r (27))), (1, .ref (r (k1)))]) C.1 C.2.1 dX5_begin_1 rfl hl (by decide) rfl (fun ls hl => ?_)
  have loop : ∀ (k t : Nat), t + k = 64 → ∀ (H : Heap) (locs : List Loc) (ls : Array Slot), mm_W D b0 r (f_X5_begin_L2 k1 M t) s H locs → lv_has ls 3 [(2, .int (nI (t))), (0, .ref (r (27))), (1, .ref (r (k1)))] → W p l e (mm_rm 3 79) s m args below meth c H locs 0 0 (MQ below (va_Qv (fun M' => M' = f_X5_begin k1 M) (mm_U D b0 r) (fun q => b0 ≤ q)) args s 0 0 (fun q => b0 ≤ q)) (F0 m 2 ls []) := by
    intro k
    induction k with
    | zero =>
      intro t ht H locs ls w hl
      obtain rfl : 64 = t := by omega
      obtain ⟨M_1, eM_1⟩ : ∃ zz, zz = f_X5_begin_L2 k1 M 64 := ⟨_, rfl⟩
      rw [← eM_1] at w
      refine lv_iload_n C.1 C.2.1 dX5_begin_2 rfl (lv_at hl 0 rfl) ?_
      refine lv_bipush (v := 64) C.1 C.2.1 dX5_begin_3 (by decide) ?_
      refine m_icmp_ge (tgt := 38) (a := 64) (b := 64) C (by omega) (by omega) dX5_begin_5 (by decide) (fun _ => ?_) (fun h_2 => absurd h_2 (by omega))
      refine lv_aload_n C.1 C.2.1 dX5_begin_38 rfl (lv_at hl 1 rfl) ?_
      refine m_get C w (k := 27) (j := 0) (v := .ref (r (23))) flX5_21 (by decide) rfl rfl dX5_begin_39 ?_
      refine m_cvv C w hl cvX5_25 (k := 23) (by decide) rfl (q := (RX8, TX8, 5)) rfl rfl (As := []) (rest := []) (c_X8_reset l D b0 r M_1  ) rfl rfl (Nat.le_of_ble_eq_true rfl) ⟨Nat.le_of_ble_eq_true rfl, Nat.le_of_ble_eq_true rfl⟩ ⟨Nat.zero_le _, Nat.zero_le _⟩ dX5_begin_42 (fun M_3 H locs eM_3 w => ?_)
      refine lv_aload_n C.1 C.2.1 dX5_begin_45 rfl (lv_at hl 1 rfl) ?_
      refine m_get C w (k := 27) (j := 0) (v := .ref (r (23))) flX5_21 (by decide) rfl rfl dX5_begin_46 ?_
      refine lv_aload_n C.1 C.2.1 dX5_begin_49 rfl (lv_at hl 1 rfl) ?_
      refine m_get C w (k := 27) (j := 1) (v := .ref (r (28))) flX5_11 (by decide) rfl rfl dX5_begin_50 ?_
      refine lv_iconst (v := 0) C.1 C.2.1 dX5_begin_53 (by decide) ?_
      refine lv_bipush (v := 64) C.1 C.2.1 dX5_begin_54 (by decide) ?_
      refine m_cvv C w hl cvX5_30 (k := 23) (by decide) rfl (q := (RX8, TX8, 5)) rfl rfl (As := [.ref (r (28)), .int 0, .int 64]) (rest := []) (c_X8_absorb l D b0 r M_3 28 0 64 0 (by decide) rfl (by decide) (by omega) (by omega) (by omega) (by rw [eM_3]; exact r_X8_reset _)) rfl rfl (Nat.le_of_ble_eq_true rfl) ⟨Nat.le_of_ble_eq_true rfl, Nat.le_of_ble_eq_true rfl⟩ ⟨Nat.zero_le _, Nat.zero_le _⟩ dX5_begin_56 (fun M_4 H locs eM_4 w => ?_)
      exact m_vret C w (by subst eM_1 eM_3 eM_4; exact Eq.symm (rfl)) dX5_begin_59
    | succ k ih =>
      intro t ht H locs ls w hl
      obtain ⟨M_5, eM_5⟩ : ∃ zz, zz = f_X5_begin_L2 k1 M t := ⟨_, rfl⟩
      rw [← eM_5] at w
      refine lv_iload_n C.1 C.2.1 dX5_begin_2 rfl (lv_at hl 0 rfl) ?_
      refine lv_bipush (v := 64) C.1 C.2.1 dX5_begin_3 (by decide) ?_
      refine m_icmp_ge (tgt := 38) (a := t) (b := 64) C (by omega) (by omega) dX5_begin_5 (by decide) (fun h_6 => absurd h_6 (by omega)) (fun _ => ?_)
      refine lv_aload_n C.1 C.2.1 dX5_begin_8 rfl (lv_at hl 1 rfl) ?_
      refine m_get C w (k := 27) (j := 1) (v := .ref (r (28))) flX5_11 (by decide) rfl rfl dX5_begin_9 ?_
      refine lv_iload_n C.1 C.2.1 dX5_begin_12 rfl (lv_at hl 0 rfl) ?_
      refine lv_iload_n C.1 C.2.1 dX5_begin_13 rfl (lv_at hl 0 rfl) ?_
      refine lv_bipush (v := 32) C.1 C.2.1 dX5_begin_14 (by decide) ?_
      refine m_icmp_ge (tgt := 28) (a := t) (b := 32) C (by omega) (by omega) dX5_begin_16 (by decide) (fun h_7 => ?_) (fun h_7 => ?_)
      · refine lv_bipush (v := 54) C.1 C.2.1 dX5_begin_28 (by decide) ?_
        refine lv_i2b (v := mm_b (54 : Int32)) C.1 C.2.1 dX5_begin_30 rfl ?_
        refine m_bast C w (k := 28) (i := t) (n := 64) (x := (mm_b (54 : Int32))) (by decide) rfl (by omega) (by decide) (mm_bb _) dX5_begin_31 (fun H locs w => ?_)
        obtain ⟨M_8, eM_8⟩ : ∃ zz, zz = mm_w M_5 28 t (mm_b (54 : Int32)) := ⟨_, rfl⟩
        rw [← eM_8] at w
        refine lv_iinc (v := (nI (t + 1))) (lv' := [(2, .int (nI (t + 1))), (0, .ref (r (27))), (1, .ref (r (k1)))]) C.1 C.2.1 dX5_begin_32 hl (k := 0) rfl (nI_add t 1) (by decide) rfl (fun ls hl => ?_)
        refine lv_goto (tgt := 2) C.1 C.2.1 dX5_begin_35 (by decide) ?_
        have h9 : lv_has ls 3 [(2, .int (nI (t + 1))), (0, .ref (r (27))), (1, .ref (r (k1)))] := lv_sub hl [0, 1, 2] rfl
        have hlZ : lv_has ls 3 [(2, .int (nI (t + 1))), (0, .ref (r (27))), (1, .ref (r (k1)))] := h9
        have wZ := w
        subst eM_5 eM_8
        refine ih (t + 1) (by omega) _ _ _ (m_w (Eq.symm (congrArg (fun z => z) (show f_X5_begin_L2 k1 M (t + 1) = _ from ((if_pos h_7).trans rfl)))) wZ) ?_
        exact hlZ
      · refine lv_aload_n C.1 C.2.1 dX5_begin_19 rfl (lv_at hl 2 rfl) ?_
        refine lv_iload_n C.1 C.2.1 dX5_begin_20 rfl (lv_at hl 0 rfl) ?_
        refine m_bald C w (k := k1) (i := t) (n := n1) (wr := w1) hk1 hs1 (by omega) hn1 dX5_begin_21 ?_
        refine lv_bipush (v := 54) C.1 C.2.1 dX5_begin_22 (by decide) ?_
        refine lv_ixor C.1 C.2.1 dX5_begin_24 ?_
        refine lv_goto (tgt := 30) C.1 C.2.1 dX5_begin_25 (by decide) ?_
        refine lv_i2b (v := mm_b ((M_5.1 k1 t) ^^^ (54 : Int32))) C.1 C.2.1 dX5_begin_30 rfl ?_
        refine m_bast C w (k := 28) (i := t) (n := 64) (x := (mm_b ((M_5.1 k1 t) ^^^ (54 : Int32)))) (by decide) rfl (by omega) (by decide) (mm_bb _) dX5_begin_31 (fun H locs w => ?_)
        obtain ⟨M_9, eM_9⟩ : ∃ zz, zz = mm_w M_5 28 t (mm_b ((M_5.1 k1 t) ^^^ (54 : Int32))) := ⟨_, rfl⟩
        rw [← eM_9] at w
        refine lv_iinc (v := (nI (t + 1))) (lv' := [(2, .int (nI (t + 1))), (0, .ref (r (27))), (1, .ref (r (k1)))]) C.1 C.2.1 dX5_begin_32 hl (k := 0) rfl (nI_add t 1) (by decide) rfl (fun ls hl => ?_)
        refine lv_goto (tgt := 2) C.1 C.2.1 dX5_begin_35 (by decide) ?_
        have h9 : lv_has ls 3 [(2, .int (nI (t + 1))), (0, .ref (r (27))), (1, .ref (r (k1)))] := lv_sub hl [0, 1, 2] rfl
        have hlZ : lv_has ls 3 [(2, .int (nI (t + 1))), (0, .ref (r (27))), (1, .ref (r (k1)))] := h9
        have wZ := w
        subst eM_5 eM_9
        refine ih (t + 1) (by omega) _ _ _ (m_w (Eq.symm (congrArg (fun z => z) (show f_X5_begin_L2 k1 M (t + 1) = _ from ((if_neg (Nat.not_le.mpr h_7)).trans rfl)))) wZ) ?_
        exact hlZ
  exact loop 64 0 (by omega) _ _ ls w hl

theorem r_X5_begin (k1 : Nat) (M : mm_M) : (f_X5_begin k1 M).1 23 3 = nI 0 := r_X8_absorb _ _ _ _ (by decide) _ (r_X8_reset _)

def f_X5_absorb (k1 : Nat) (p1 : Nat) (p2 : Nat) (q : Nat) (M : mm_M) : mm_M :=
  let M_1 := f_X8_absorb k1 p1 p2 q M
  M_1
theorem w_f_X5_absorb (k1 : Nat) (p1 : Nat) (p2 : Nat) (q : Nat) (M : mm_M) : mm_fr [23, 26, 25, 24] M (f_X5_absorb k1 p1 p2 q M) := by
  unfold f_X5_absorb
  exact ((w_f_X8_absorb _ _ _ _ _).on (by simp) (mm_fr_refl _ _))
set_option maxHeartbeats 4000000 in
set_option maxRecDepth 100000 in
theorem c_X5_absorb (l : Launch) (D : va_G) (b0 : Nat) (r : Nat → Nat) (M : mm_M) (k1 : Nat) (p1 : Nat) (p2 : Nat) (q : Nat) {n1 : Nat} {w1 : Bool} (hk1 : k1 < 181) (hs1 : mm_sh k1 = .inl (.byte, n1, w1)) (hn1 : n1 < 2 ^ 31) (hp1 : p1 + p2 ≤ n1) (hp2 : n1 < 2 ^ 30) (hq : q < 64) (h0 : M.1 23 3 = nI q) : mm_Mv l yX5_absorb cX5_absorb 4 3 79 D b0 r [.ref (r (27)), .ref (r (k1)), .int (nI (p1)), .int (nI (p2))] M (fun M' => M' = f_X5_absorb k1 p1 p2 q M) := by
  refine mm_enter (cc := cX5_absorb) (nL := 4) (ret := none) (by decide) (Nat.le_of_ble_eq_true rfl) ?_
  intro p e s m args below meth c C w ls hl
  have hl : lv_has ls 4 [(0, .ref (r (27))), (1, .ref (r (k1))), (2, .int (nI (p1))), (3, .int (nI (p2)))] := hl
  refine lv_aload_n C.1 C.2.1 dX5_absorb_0 rfl (lv_at hl 0 rfl) ?_
  refine m_get C w (k := 27) (j := 0) (v := .ref (r (23))) flX5_21 (by decide) rfl rfl dX5_absorb_1 ?_
  refine lv_aload_n C.1 C.2.1 dX5_absorb_4 rfl (lv_at hl 1 rfl) ?_
  refine lv_iload_n C.1 C.2.1 dX5_absorb_5 rfl (lv_at hl 2 rfl) ?_
  refine lv_iload_n C.1 C.2.1 dX5_absorb_6 rfl (lv_at hl 3 rfl) ?_
  refine m_cvv C w hl cvX5_30 (k := 23) (by decide) rfl (q := (RX8, TX8, 5)) rfl rfl (As := [.ref (r (k1)), .int (nI (p1)), .int (nI (p2))]) (rest := []) (c_X8_absorb l D b0 r M k1 p1 p2 q hk1 hs1 hn1 (by omega) (by omega) (by omega) h0) rfl rfl (Nat.le_of_ble_eq_true rfl) ⟨Nat.le_of_ble_eq_true rfl, Nat.le_of_ble_eq_true rfl⟩ ⟨Nat.zero_le _, Nat.zero_le _⟩ dX5_absorb_7 (fun M_1 H locs eM_1 w => ?_)
  exact m_vret C w (by subst eM_1; exact Eq.symm (rfl)) dX5_absorb_10

def f_X5_finish_L13  (σ : mm_M) : Nat → mm_M
  | 0 => σ
  | t + 1 =>
  let M_8 := f_X5_finish_L13 σ t
  let M_10 := mm_w M_8 28 t (mm_b ((M_8.1 28 t) ^^^ (106 : Int32)))
  M_10
theorem w_f_X5_finish_L13  (σ : mm_M) : ∀ t : Nat, mm_fr [28] σ (f_X5_finish_L13 σ t)
  | 0 => mm_fr_refl _ _
  | t + 1 => have ih := w_f_X5_finish_L13 σ t
    (mm_fr_w (by simp) ih)
def f_X5_finish (k1 : Nat) (q : Nat) (M : mm_M) : mm_M :=
  let M_1 := f_X8_finish 29 q M
  let M_2 := f_X5_finish_L13 M_1 64
  let M_4 := f_X8_reset M_2
  let M_5 := f_X8_absorb 28 0 64 0 M_4
  let M_6 := f_X8_absorb 29 0 32 ((0 + 64) % 64) M_5
  let M_7 := f_X8_finish k1 (((0 + 64) % 64 + 32) % 64) M_6
  M_7
theorem w_f_X5_finish (k1 : Nat) (q : Nat) (M : mm_M) : mm_fr [26, 25, 24, 29, 23, k1, 28] M (f_X5_finish k1 q M) := by
  unfold f_X5_finish
  exact ((w_f_X8_finish _ _ _).on (by simp) ((w_f_X8_absorb _ _ _ _ _).on (by simp) ((w_f_X8_absorb _ _ _ _ _).on (by simp) ((w_f_X8_reset _).on (by simp) ((w_f_X5_finish_L13 _ 64).on (by simp) ((w_f_X8_finish _ _ _).on (by simp) (mm_fr_refl _ _)))))))
set_option maxHeartbeats 4000000 in
set_option maxRecDepth 100000 in
theorem c_X5_finish (l : Launch) (D : va_G) (b0 : Nat) (r : Nat → Nat) (M : mm_M) (k1 : Nat) (q : Nat) {n1 : Nat} (hk1 : k1 < 173) (hs1 : mm_sh k1 = .inl (.byte, n1, true)) (hn1 : n1 < 2 ^ 31) (hp1 : 32 ≤ n1) (hq : q < 64) (h0 : M.1 23 3 = nI q) : mm_Mv l yX5_finish cX5_finish 3 3 79 D b0 r [.ref (r (27)), .ref (r (k1))] M (fun M' => M' = f_X5_finish k1 q M) := by
  refine mm_enter (cc := cX5_finish) (nL := 3) (ret := none) (by decide) (Nat.le_of_ble_eq_true rfl) ?_
  intro p e s m args below meth c C w ls hl
  have hl : lv_has ls 3 [(0, .ref (r (27))), (1, .ref (r (k1)))] := hl
  refine lv_aload_n C.1 C.2.1 dX5_finish_0 rfl (lv_at hl 0 rfl) ?_
  refine m_get C w (k := 27) (j := 0) (v := .ref (r (23))) flX5_21 (by decide) rfl rfl dX5_finish_1 ?_
  refine lv_aload_n C.1 C.2.1 dX5_finish_4 rfl (lv_at hl 0 rfl) ?_
  refine m_get C w (k := 27) (j := 2) (v := .ref (r (29))) flX5_15 (by decide) rfl rfl dX5_finish_5 ?_
  refine m_cvv C w hl cvX5_34 (k := 23) (by decide) rfl (q := (RX8, TX8, 5)) rfl rfl (As := [.ref (r (29))]) (rest := []) (c_X8_finish l D b0 r M 29 q (by decide) rfl (by decide) (by omega) (by omega) h0) rfl rfl (Nat.le_of_ble_eq_true rfl) ⟨Nat.le_of_ble_eq_true rfl, Nat.le_of_ble_eq_true rfl⟩ ⟨Nat.zero_le _, Nat.zero_le _⟩ dX5_finish_8 (fun M_1 H locs eM_1 w => ?_)
  refine lv_iconst (v := 0) C.1 C.2.1 dX5_finish_11 (by decide) ?_
  refine lv_istore_n (lv' := [(2, .int 0), (0, .ref (r (27))), (1, .ref (r (k1)))]) C.1 C.2.1 dX5_finish_12 rfl hl (by decide) rfl (fun ls hl => ?_)
  have loop : ∀ (k t : Nat), t + k = 64 → ∀ (H : Heap) (locs : List Loc) (ls : Array Slot), mm_W D b0 r (f_X5_finish_L13 M_1 t) s H locs → lv_has ls 3 [(2, .int (nI (t))), (0, .ref (r (27))), (1, .ref (r (k1)))] → W p l e (mm_rm 3 79) s m args below meth c H locs 0 0 (MQ below (va_Qv (fun M' => M' = f_X5_finish k1 q M) (mm_U D b0 r) (fun q => b0 ≤ q)) args s 0 0 (fun q => b0 ≤ q)) (F0 m 13 ls []) := by
    intro k
    induction k with
    | zero =>
      intro t ht H locs ls w hl
      obtain rfl : 64 = t := by omega
      obtain ⟨M_2, eM_2⟩ : ∃ zz, zz = f_X5_finish_L13 M_1 64 := ⟨_, rfl⟩
      rw [← eM_2] at w
      refine lv_iload_n C.1 C.2.1 dX5_finish_13 rfl (lv_at hl 0 rfl) ?_
      refine lv_bipush (v := 64) C.1 C.2.1 dX5_finish_14 (by decide) ?_
      refine m_icmp_ge (tgt := 37) (a := 64) (b := 64) C (by omega) (by omega) dX5_finish_16 (by decide) (fun _ => ?_) (fun h_3 => absurd h_3 (by omega))
      refine lv_aload_n C.1 C.2.1 dX5_finish_37 rfl (lv_at hl 1 rfl) ?_
      refine m_get C w (k := 27) (j := 0) (v := .ref (r (23))) flX5_21 (by decide) rfl rfl dX5_finish_38 ?_
      refine m_cvv C w hl cvX5_25 (k := 23) (by decide) rfl (q := (RX8, TX8, 5)) rfl rfl (As := []) (rest := []) (c_X8_reset l D b0 r M_2  ) rfl rfl (Nat.le_of_ble_eq_true rfl) ⟨Nat.le_of_ble_eq_true rfl, Nat.le_of_ble_eq_true rfl⟩ ⟨Nat.zero_le _, Nat.zero_le _⟩ dX5_finish_41 (fun M_4 H locs eM_4 w => ?_)
      refine lv_aload_n C.1 C.2.1 dX5_finish_44 rfl (lv_at hl 1 rfl) ?_
      refine m_get C w (k := 27) (j := 0) (v := .ref (r (23))) flX5_21 (by decide) rfl rfl dX5_finish_45 ?_
      refine lv_aload_n C.1 C.2.1 dX5_finish_48 rfl (lv_at hl 1 rfl) ?_
      refine m_get C w (k := 27) (j := 1) (v := .ref (r (28))) flX5_11 (by decide) rfl rfl dX5_finish_49 ?_
      refine lv_iconst (v := 0) C.1 C.2.1 dX5_finish_52 (by decide) ?_
      refine lv_bipush (v := 64) C.1 C.2.1 dX5_finish_53 (by decide) ?_
      refine m_cvv C w hl cvX5_30 (k := 23) (by decide) rfl (q := (RX8, TX8, 5)) rfl rfl (As := [.ref (r (28)), .int 0, .int 64]) (rest := []) (c_X8_absorb l D b0 r M_4 28 0 64 0 (by decide) rfl (by decide) (by omega) (by omega) (by omega) (by rw [eM_4]; exact r_X8_reset _)) rfl rfl (Nat.le_of_ble_eq_true rfl) ⟨Nat.le_of_ble_eq_true rfl, Nat.le_of_ble_eq_true rfl⟩ ⟨Nat.zero_le _, Nat.zero_le _⟩ dX5_finish_55 (fun M_5 H locs eM_5 w => ?_)
      refine lv_aload_n C.1 C.2.1 dX5_finish_58 rfl (lv_at hl 1 rfl) ?_
      refine m_get C w (k := 27) (j := 0) (v := .ref (r (23))) flX5_21 (by decide) rfl rfl dX5_finish_59 ?_
      refine lv_aload_n C.1 C.2.1 dX5_finish_62 rfl (lv_at hl 1 rfl) ?_
      refine m_get C w (k := 27) (j := 2) (v := .ref (r (29))) flX5_15 (by decide) rfl rfl dX5_finish_63 ?_
      refine lv_iconst (v := 0) C.1 C.2.1 dX5_finish_66 (by decide) ?_
      refine lv_bipush (v := 32) C.1 C.2.1 dX5_finish_67 (by decide) ?_
      refine m_cvv C w hl cvX5_30 (k := 23) (by decide) rfl (q := (RX8, TX8, 5)) rfl rfl (As := [.ref (r (29)), .int 0, .int 32]) (rest := []) (c_X8_absorb l D b0 r M_5 29 0 32 ((0 + 64) % 64) (by decide) rfl (by decide) (by omega) (by omega) (by omega) (by rw [eM_5]; exact r_X8_absorb _ _ _ _ (by decide) _ (by rw [eM_4]; exact r_X8_reset _))) rfl rfl (Nat.le_of_ble_eq_true rfl) ⟨Nat.le_of_ble_eq_true rfl, Nat.le_of_ble_eq_true rfl⟩ ⟨Nat.zero_le _, Nat.zero_le _⟩ dX5_finish_69 (fun M_6 H locs eM_6 w => ?_)
      refine lv_aload_n C.1 C.2.1 dX5_finish_72 rfl (lv_at hl 1 rfl) ?_
      refine m_get C w (k := 27) (j := 0) (v := .ref (r (23))) flX5_21 (by decide) rfl rfl dX5_finish_73 ?_
      refine lv_aload_n C.1 C.2.1 dX5_finish_76 rfl (lv_at hl 2 rfl) ?_
      refine m_cvv C w hl cvX5_34 (k := 23) (by decide) rfl (q := (RX8, TX8, 5)) rfl rfl (As := [.ref (r (k1))]) (rest := []) (c_X8_finish l D b0 r M_6 k1 (((0 + 64) % 64 + 32) % 64) hk1 hs1 hn1 (by omega) (by omega) (by rw [eM_6]; exact r_X8_absorb _ _ _ _ (by decide) _ (by rw [eM_5]; exact r_X8_absorb _ _ _ _ (by decide) _ (by rw [eM_4]; exact r_X8_reset _)))) rfl rfl (Nat.le_of_ble_eq_true rfl) ⟨Nat.le_of_ble_eq_true rfl, Nat.le_of_ble_eq_true rfl⟩ ⟨Nat.zero_le _, Nat.zero_le _⟩ dX5_finish_77 (fun M_7 H locs eM_7 w => ?_)
      exact m_vret C w (by subst eM_1 eM_2 eM_4 eM_5 eM_6 eM_7; exact Eq.symm (rfl)) dX5_finish_80
    | succ k ih =>
      intro t ht H locs ls w hl
      obtain ⟨M_8, eM_8⟩ : ∃ zz, zz = f_X5_finish_L13 M_1 t := ⟨_, rfl⟩
      rw [← eM_8] at w
      refine lv_iload_n C.1 C.2.1 dX5_finish_13 rfl (lv_at hl 0 rfl) ?_
      refine lv_bipush (v := 64) C.1 C.2.1 dX5_finish_14 (by decide) ?_
      refine m_icmp_ge (tgt := 37) (a := t) (b := 64) C (by omega) (by omega) dX5_finish_16 (by decide) (fun h_9 => absurd h_9 (by omega)) (fun _ => ?_)
      refine lv_aload_n C.1 C.2.1 dX5_finish_19 rfl (lv_at hl 1 rfl) ?_
      refine m_get C w (k := 27) (j := 1) (v := .ref (r (28))) flX5_11 (by decide) rfl rfl dX5_finish_20 ?_
      refine lv_iload_n C.1 C.2.1 dX5_finish_23 rfl (lv_at hl 0 rfl) ?_
      refine lv_dup2_11 C.1 C.2.1 dX5_finish_24 rfl rfl ?_
      refine m_bald C w (k := 28) (i := t) (n := 64) (wr := true) (by decide) rfl (by omega) (by decide) dX5_finish_25 ?_
      refine lv_bipush (v := 106) C.1 C.2.1 dX5_finish_26 (by decide) ?_
      refine lv_ixor C.1 C.2.1 dX5_finish_28 ?_
      refine lv_i2b (v := mm_b ((M_8.1 28 t) ^^^ (106 : Int32))) C.1 C.2.1 dX5_finish_29 rfl ?_
      refine m_bast C w (k := 28) (i := t) (n := 64) (x := (mm_b ((M_8.1 28 t) ^^^ (106 : Int32)))) (by decide) rfl (by omega) (by decide) (mm_bb _) dX5_finish_30 (fun H locs w => ?_)
      obtain ⟨M_10, eM_10⟩ : ∃ zz, zz = mm_w M_8 28 t (mm_b ((M_8.1 28 t) ^^^ (106 : Int32))) := ⟨_, rfl⟩
      rw [← eM_10] at w
      refine lv_iinc (v := (nI (t + 1))) (lv' := [(2, .int (nI (t + 1))), (0, .ref (r (27))), (1, .ref (r (k1)))]) C.1 C.2.1 dX5_finish_31 hl (k := 0) rfl (nI_add t 1) (by decide) rfl (fun ls hl => ?_)
      refine lv_goto (tgt := 13) C.1 C.2.1 dX5_finish_34 (by decide) ?_
      have h9 : lv_has ls 3 [(2, .int (nI (t + 1))), (0, .ref (r (27))), (1, .ref (r (k1)))] := lv_sub hl [0, 1, 2] rfl
      have hlZ : lv_has ls 3 [(2, .int (nI (t + 1))), (0, .ref (r (27))), (1, .ref (r (k1)))] := h9
      have wZ := w
      subst eM_8 eM_10
      refine ih (t + 1) (by omega) _ _ _ (wZ) ?_
      exact hlZ
  exact loop 64 0 (by omega) _ _ ls w hl

theorem r_X5_absorb (k1 p1 p2 q : Nat) (hq : q < 64) (M : mm_M) (h0 : M.1 23 3 = nI q) : (f_X5_absorb k1 p1 p2 q M).1 23 3 = nI ((q + p2) % 64) := r_X8_absorb _ _ _ _ hq _ h0

def f_X5_hkdf (k1 : Nat) (k2 : Nat) (p1 : Nat) (k3 : Nat) (k4 : Nat) (M : mm_M) : mm_M :=
  let M_1 := f_X5_begin k1 M
  let M_2 := f_X5_absorb k2 0 p1 0 M_1
  let M_3 := f_X5_finish 30 ((0 + p1) % 64) M_2
  let M_4 := f_X5_begin 30 M_3
  let M_5 := f_X5_absorb 177 0 1 0 M_4
  let M_6 := f_X5_finish k3 ((0 + 1) % 64) M_5
  let M_7 := f_X5_begin 30 M_6
  let M_8 := f_X5_absorb k3 0 32 0 M_7
  let M_9 := f_X5_absorb 177 1 1 ((0 + 32) % 64) M_8
  let M_10 := f_X5_finish k4 (((0 + 32) % 64 + 1) % 64) M_9
  M_10
theorem w_f_X5_hkdf (k1 : Nat) (k2 : Nat) (p1 : Nat) (k3 : Nat) (k4 : Nat) (M : mm_M) : mm_fr [24, 23, 26, 25, 28, 29, 30, k3, k4] M (f_X5_hkdf k1 k2 p1 k3 k4 M) := by
  unfold f_X5_hkdf
  exact ((w_f_X5_finish _ _ _).on (by simp) ((w_f_X5_absorb _ _ _ _ _).on (by simp) ((w_f_X5_absorb _ _ _ _ _).on (by simp) ((w_f_X5_begin _ _).on (by simp) ((w_f_X5_finish _ _ _).on (by simp) ((w_f_X5_absorb _ _ _ _ _).on (by simp) ((w_f_X5_begin _ _).on (by simp) ((w_f_X5_finish _ _ _).on (by simp) ((w_f_X5_absorb _ _ _ _ _).on (by simp) ((w_f_X5_begin _ _).on (by simp) (mm_fr_refl _ _)))))))))))
set_option maxHeartbeats 4000000 in
set_option maxRecDepth 100000 in
theorem c_X5_hkdf (l : Launch) (D : va_G) (b0 : Nat) (r : Nat → Nat) (M : mm_M) (k1 : Nat) (k2 : Nat) (p1 : Nat) (k3 : Nat) (k4 : Nat) {n1 : Nat} {w1 : Bool} (hk1 : k1 < 181) (hs1 : mm_sh k1 = .inl (.byte, n1, w1)) (hn1 : n1 < 2 ^ 31) (hp1 : 32 ≤ n1) {n2 : Nat} {w2 : Bool} (hk2 : k2 < 181) (hs2 : mm_sh k2 = .inl (.byte, n2, w2)) (hn2 : n2 < 2 ^ 31) (hp2 : p1 ≤ n2) (hp3 : n2 < 2 ^ 30) {n3 : Nat} (hk3 : k3 < 173) (hs3 : mm_sh k3 = .inl (.byte, n3, true)) (hn3 : n3 < 2 ^ 31) (hp4 : 32 ≤ n3) (hp5 : n3 < 2 ^ 30) {n4 : Nat} (hk4 : k4 < 173) (hs4 : mm_sh k4 = .inl (.byte, n4, true)) (hn4 : n4 < 2 ^ 31) (hp6 : 32 ≤ n4) : mm_Mv l yX5_hkdf cX5_hkdf 6 4 102 D b0 r [.ref (r (27)), .ref (r (k1)), .ref (r (k2)), .int (nI (p1)), .ref (r (k3)), .ref (r (k4))] M (fun M' => M' = f_X5_hkdf k1 k2 p1 k3 k4 M) := by
  refine mm_enter (cc := cX5_hkdf) (nL := 6) (ret := none) (by decide) (Nat.le_of_ble_eq_true rfl) ?_
  intro p e s m args below meth c C w ls hl
  have hl : lv_has ls 6 [(0, .ref (r (27))), (1, .ref (r (k1))), (2, .ref (r (k2))), (3, .int (nI (p1))), (4, .ref (r (k3))), (5, .ref (r (k4)))] := hl
  refine lv_aload_n C.1 C.2.1 dX5_hkdf_0 rfl (lv_at hl 0 rfl) ?_
  refine lv_aload_n C.1 C.2.1 dX5_hkdf_1 rfl (lv_at hl 1 rfl) ?_
  refine m_cvv C w hl cvX5_38 (k := 27) (by decide) rfl (q := (RX5, TX5, 4)) rfl rfl (As := [.ref (r (k1))]) (rest := []) (c_X5_begin l D b0 r M k1 hk1 hs1 hn1 (by omega)) rfl rfl (Nat.le_of_ble_eq_true rfl) ⟨Nat.le_of_ble_eq_true rfl, Nat.le_of_ble_eq_true rfl⟩ ⟨Nat.zero_le _, Nat.zero_le _⟩ dX5_hkdf_2 (fun M_1 H locs eM_1 w => ?_)
  refine lv_aload_n C.1 C.2.1 dX5_hkdf_5 rfl (lv_at hl 0 rfl) ?_
  refine lv_aload_n C.1 C.2.1 dX5_hkdf_6 rfl (lv_at hl 2 rfl) ?_
  refine lv_iconst (v := 0) C.1 C.2.1 dX5_hkdf_7 (by decide) ?_
  refine lv_iload_n C.1 C.2.1 dX5_hkdf_8 rfl (lv_at hl 3 rfl) ?_
  refine m_cvv C w hl cvX5_41 (k := 27) (by decide) rfl (q := (RX5, TX5, 4)) rfl rfl (As := [.ref (r (k2)), .int 0, .int (nI (p1))]) (rest := []) (c_X5_absorb l D b0 r M_1 k2 0 p1 0 hk2 hs2 hn2 (by omega) (by omega) (by omega) (by rw [eM_1]; exact r_X5_begin _ _)) rfl rfl (Nat.le_of_ble_eq_true rfl) ⟨Nat.le_of_ble_eq_true rfl, Nat.le_of_ble_eq_true rfl⟩ ⟨Nat.zero_le _, Nat.zero_le _⟩ dX5_hkdf_9 (fun M_2 H locs eM_2 w => ?_)
  refine lv_aload_n C.1 C.2.1 dX5_hkdf_12 rfl (lv_at hl 0 rfl) ?_
  refine lv_aload_n C.1 C.2.1 dX5_hkdf_13 rfl (lv_at hl 0 rfl) ?_
  refine m_get C w (k := 27) (j := 3) (v := .ref (r (30))) flX5_18 (by decide) rfl rfl dX5_hkdf_14 ?_
  refine m_cvv C w hl cvX5_42 (k := 27) (by decide) rfl (q := (RX5, TX5, 4)) rfl rfl (As := [.ref (r (30))]) (rest := []) (c_X5_finish l D b0 r M_2 30 ((0 + p1) % 64) (by decide) rfl (by decide) (by omega) (by omega) (by rw [eM_2]; exact r_X5_absorb _ _ _ _ (by omega) _ (by rw [eM_1]; exact r_X5_begin _ _))) rfl rfl (Nat.le_of_ble_eq_true rfl) ⟨Nat.le_of_ble_eq_true rfl, Nat.le_of_ble_eq_true rfl⟩ ⟨Nat.zero_le _, Nat.zero_le _⟩ dX5_hkdf_17 (fun M_3 H locs eM_3 w => ?_)
  refine lv_aload_n C.1 C.2.1 dX5_hkdf_20 rfl (lv_at hl 0 rfl) ?_
  refine lv_aload_n C.1 C.2.1 dX5_hkdf_21 rfl (lv_at hl 0 rfl) ?_
  refine m_get C w (k := 27) (j := 3) (v := .ref (r (30))) flX5_18 (by decide) rfl rfl dX5_hkdf_22 ?_
  refine m_cvv C w hl cvX5_38 (k := 27) (by decide) rfl (q := (RX5, TX5, 4)) rfl rfl (As := [.ref (r (30))]) (rest := []) (c_X5_begin l D b0 r M_3 30 (by decide) rfl (by decide) (by omega)) rfl rfl (Nat.le_of_ble_eq_true rfl) ⟨Nat.le_of_ble_eq_true rfl, Nat.le_of_ble_eq_true rfl⟩ ⟨Nat.zero_le _, Nat.zero_le _⟩ dX5_hkdf_25 (fun M_4 H locs eM_4 w => ?_)
  refine lv_aload_n C.1 C.2.1 dX5_hkdf_28 rfl (lv_at hl 0 rfl) ?_
  refine m_gets C w C.2.2.2.2.2.2.2.1.2.2.2.2.1 fsX5_43 dX5_hkdf_29 ?_
  refine lv_iconst (v := 0) C.1 C.2.1 dX5_hkdf_32 (by decide) ?_
  refine lv_iconst (v := 1) C.1 C.2.1 dX5_hkdf_33 (by decide) ?_
  refine m_cvv C w hl cvX5_41 (k := 27) (by decide) rfl (q := (RX5, TX5, 4)) rfl rfl (As := [.ref (r (177)), .int 0, .int 1]) (rest := []) (c_X5_absorb l D b0 r M_4 177 0 1 0 (by decide) rfl (by decide) (by omega) (by omega) (by omega) (by rw [eM_4]; exact r_X5_begin _ _)) rfl rfl (Nat.le_of_ble_eq_true rfl) ⟨Nat.le_of_ble_eq_true rfl, Nat.le_of_ble_eq_true rfl⟩ ⟨Nat.zero_le _, Nat.zero_le _⟩ dX5_hkdf_34 (fun M_5 H locs eM_5 w => ?_)
  refine lv_aload_n C.1 C.2.1 dX5_hkdf_37 rfl (lv_at hl 0 rfl) ?_
  refine lv_aload C.1 C.2.1 dX5_hkdf_38 (lv_at hl 4 rfl) ?_
  refine m_cvv C w hl cvX5_42 (k := 27) (by decide) rfl (q := (RX5, TX5, 4)) rfl rfl (As := [.ref (r (k3))]) (rest := []) (c_X5_finish l D b0 r M_5 k3 ((0 + 1) % 64) hk3 hs3 hn3 (by omega) (by omega) (by rw [eM_5]; exact r_X5_absorb _ _ _ _ (by omega) _ (by rw [eM_4]; exact r_X5_begin _ _))) rfl rfl (Nat.le_of_ble_eq_true rfl) ⟨Nat.le_of_ble_eq_true rfl, Nat.le_of_ble_eq_true rfl⟩ ⟨Nat.zero_le _, Nat.zero_le _⟩ dX5_hkdf_40 (fun M_6 H locs eM_6 w => ?_)
  refine lv_aload_n C.1 C.2.1 dX5_hkdf_43 rfl (lv_at hl 0 rfl) ?_
  refine lv_aload_n C.1 C.2.1 dX5_hkdf_44 rfl (lv_at hl 0 rfl) ?_
  refine m_get C w (k := 27) (j := 3) (v := .ref (r (30))) flX5_18 (by decide) rfl rfl dX5_hkdf_45 ?_
  refine m_cvv C w hl cvX5_38 (k := 27) (by decide) rfl (q := (RX5, TX5, 4)) rfl rfl (As := [.ref (r (30))]) (rest := []) (c_X5_begin l D b0 r M_6 30 (by decide) rfl (by decide) (by omega)) rfl rfl (Nat.le_of_ble_eq_true rfl) ⟨Nat.le_of_ble_eq_true rfl, Nat.le_of_ble_eq_true rfl⟩ ⟨Nat.zero_le _, Nat.zero_le _⟩ dX5_hkdf_48 (fun M_7 H locs eM_7 w => ?_)
  refine lv_aload_n C.1 C.2.1 dX5_hkdf_51 rfl (lv_at hl 0 rfl) ?_
  refine lv_aload C.1 C.2.1 dX5_hkdf_52 (lv_at hl 4 rfl) ?_
  refine lv_iconst (v := 0) C.1 C.2.1 dX5_hkdf_54 (by decide) ?_
  refine lv_bipush (v := 32) C.1 C.2.1 dX5_hkdf_55 (by decide) ?_
  refine m_cvv C w hl cvX5_41 (k := 27) (by decide) rfl (q := (RX5, TX5, 4)) rfl rfl (As := [.ref (r (k3)), .int 0, .int 32]) (rest := []) (c_X5_absorb l D b0 r M_7 k3 0 32 0 (Nat.lt_trans hk3 (by decide)) hs3 hn3 (by omega) (by omega) (by omega) (by rw [eM_7]; exact r_X5_begin _ _)) rfl rfl (Nat.le_of_ble_eq_true rfl) ⟨Nat.le_of_ble_eq_true rfl, Nat.le_of_ble_eq_true rfl⟩ ⟨Nat.zero_le _, Nat.zero_le _⟩ dX5_hkdf_57 (fun M_8 H locs eM_8 w => ?_)
  refine lv_aload_n C.1 C.2.1 dX5_hkdf_60 rfl (lv_at hl 0 rfl) ?_
  refine m_gets C w C.2.2.2.2.2.2.2.1.2.2.2.2.1 fsX5_43 dX5_hkdf_61 ?_
  refine lv_iconst (v := 1) C.1 C.2.1 dX5_hkdf_64 (by decide) ?_
  refine lv_iconst (v := 1) C.1 C.2.1 dX5_hkdf_65 (by decide) ?_
  refine m_cvv C w hl cvX5_41 (k := 27) (by decide) rfl (q := (RX5, TX5, 4)) rfl rfl (As := [.ref (r (177)), .int 1, .int 1]) (rest := []) (c_X5_absorb l D b0 r M_8 177 1 1 ((0 + 32) % 64) (by decide) rfl (by decide) (by omega) (by omega) (by omega) (by rw [eM_8]; exact r_X5_absorb _ _ _ _ (by omega) _ (by rw [eM_7]; exact r_X5_begin _ _))) rfl rfl (Nat.le_of_ble_eq_true rfl) ⟨Nat.le_of_ble_eq_true rfl, Nat.le_of_ble_eq_true rfl⟩ ⟨Nat.zero_le _, Nat.zero_le _⟩ dX5_hkdf_66 (fun M_9 H locs eM_9 w => ?_)
  refine lv_aload_n C.1 C.2.1 dX5_hkdf_69 rfl (lv_at hl 0 rfl) ?_
  refine lv_aload C.1 C.2.1 dX5_hkdf_70 (lv_at hl 5 rfl) ?_
  refine m_cvv C w hl cvX5_42 (k := 27) (by decide) rfl (q := (RX5, TX5, 4)) rfl rfl (As := [.ref (r (k4))]) (rest := []) (c_X5_finish l D b0 r M_9 k4 (((0 + 32) % 64 + 1) % 64) hk4 hs4 hn4 (by omega) (by omega) (by rw [eM_9]; exact r_X5_absorb _ _ _ _ (by omega) _ (by rw [eM_8]; exact r_X5_absorb _ _ _ _ (by omega) _ (by rw [eM_7]; exact r_X5_begin _ _)))) rfl rfl (Nat.le_of_ble_eq_true rfl) ⟨Nat.le_of_ble_eq_true rfl, Nat.le_of_ble_eq_true rfl⟩ ⟨Nat.zero_le _, Nat.zero_le _⟩ dX5_hkdf_72 (fun M_10 H locs eM_10 w => ?_)
  exact m_vret C w (by subst eM_1 eM_2 eM_3 eM_4 eM_5 eM_6 eM_7 eM_8 eM_9 eM_10; exact Eq.symm (rfl)) dX5_hkdf_75
