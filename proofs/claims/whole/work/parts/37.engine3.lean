theorem g_areOnTape {v u : Int32} {M : mm_M} {ts : Nat} (hts : ts ≤ 1000) (h1 : M.1 0 1 = nI ts) (h : ¬ f_X11_areOnTape v u M = 0) : (v = nI v.toNatClampNeg ∧ v.toNatClampNeg ≤ ts) ∧ u = nI u.toNatClampNeg ∧ v.toNatClampNeg + u.toNatClampNeg ≤ ts := by
  unfold f_X11_areOnTape at h
  by_cases h0 : f_X11_isOnTape v M = 0
  · rw [if_pos h0] at h; exact absurd rfl h
  · obtain ⟨e1, e2⟩ := g_isOnTape hts h1 h0
    rw [if_neg h0] at h
    by_cases h2 : u < 0
    · rw [if_pos h2] at h; exact absurd rfl h
    · rw [if_neg h2] at h
      generalize hq : v.toNatClampNeg = q at *
      rw [h1, e1, pk_sub (by omega)] at h
      by_cases h3 : nI (ts - q) < u
      · rw [if_pos h3] at h; exact absurd rfl h
      · have h4 : ¬ nI (ts - q + 1) ≤ u := by
          intro z
          apply h3
          rw [Int32.lt_iff_toInt_lt, nI_toInt (by omega)]
          rw [Int32.le_iff_toInt_le, nI_toInt (by omega)] at z
          omega
        obtain ⟨a, b⟩ := mm_nat (show ts - q + 1 < 2 ^ 31 by omega) h2 h4
        exact ⟨⟨e1, e2⟩, a, by omega⟩
theorem g_hasBegun {v : Int32} {M : mm_M} (h : ¬ f_X11_hasBegun v M = 0) : (v = nI v.toNatClampNeg ∧ v.toNatClampNeg < 4) ∧ ¬ M.1 (49 + 17 * v.toNatClampNeg) 10 = -1 := by
  unfold f_X11_hasBegun at h
  by_cases h0 : ¬ f_X11_isSession v = 0
  · refine ⟨g_isSession h0, fun e => ?_⟩
    rw [if_pos h0] at h
    apply h
    show (if f_X7_hasBegun (49 + 17 * v.toNatClampNeg) M = 0 then _ else _) = _
    rw [if_pos (by unfold f_X7_hasBegun; rw [if_pos e])]
  · rw [if_neg h0] at h
    exact absurd rfl h

def f_X11_seal (v1 : Int32) (w1 : Int64) (v2 : Int32) (v3 : Int32) (ts : Nat) (M : mm_M) : Int32 × mm_M :=
  if ¬ f_X11_isKey v1 = 0 ∧ ¬ (984 : Int32) < v3 ∧ ¬ f_X11_areOnTape v2 v3 M = 0 then (let q1 := (v1).toNatClampNeg
  let q2 := (v2).toNatClampNeg
  let q3 := (v3).toNatClampNeg
  let M_6 := f_X11_emptyTape M
  let M_7 := f_X0_begin (4 + q1) (w1) M_6
  let M_8 := f_X0_associate 1 q2 M_7
  let M_9 := f_X0_encrypt 1 q2 q3 2 0 M_8
  let v_11 := (f_X11_tell (nI (q3 + 16)) M_9).1
  let M_10 := (f_X11_tell (nI (q3 + 16)) M_9).2
  ((v_11), M_10)) else (if (f_X11_isKey (v1)) = (0 : Int32) then (((-2 : Int32), M)) else (if (984 : Int32) < (v3) then (((-2 : Int32), M)) else (((-2 : Int32), M))))
theorem w_f_X11_seal (v1 : Int32) (w1 : Int64) (v2 : Int32) (v3 : Int32) (ts : Nat) (M : mm_M) : mm_fr2 [0, 34, 35, 33, 37, 40, 38, 39, 31, 2, 41] M (f_X11_seal v1 w1 v2 v3 ts M) := by
  unfold f_X11_seal
  exact (mm_fr_ite2 (fun _ => ((w_f_X11_tell _ _).m.on (by simp) ((w_f_X0_encrypt _ _ _ _ _ _).on (by simp) ((w_f_X0_associate _ _ _).on (by simp) ((w_f_X0_begin _ _ _).on (by simp) ((w_f_X11_emptyTape _).on (by simp) (mm_fr_refl _ _)))))).b) (fun _ => (mm_fr_ite2 (fun _ => (mm_fr_refl _ _).b) (fun _ => (mm_fr_ite2 (fun _ => (mm_fr_refl _ _).b) (fun _ => (mm_fr_refl _ _).b))))))
set_option maxHeartbeats 4000000 in
set_option maxRecDepth 100000 in
theorem c_X11_seal (l : Launch) (D : va_G) (b0 : Nat) (r : Nat → Nat) (M : mm_M) (v1 : Int32) (w1 : Int64) (v2 : Int32) (v3 : Int32) (ts : Nat) (hts : ts ≤ 1000) (h1 : M.1 0 1 = nI ts) : mm_Mi l yX11_seal cX11_seal 6 .int 4 123 D b0 r [.ref (r (0)), .int (v1), .long (w1), .int (v2), .int (v3)] M (fun v M' => (v, M') = f_X11_seal v1 w1 v2 v3 ts M) := by
  refine mm_enter (cc := cX11_seal) (nL := 6) (ret := (some .int)) (by decide) (Nat.le_of_ble_eq_true rfl) ?_
  intro p e s m args below meth c C w ls hl
  have hl : lv_has ls 6 [(0, .ref (r (0))), (1, .int (v1)), (2, .long (w1)), (4, .int (v2)), (5, .int (v3))] := hl
  by_cases hS : ¬ f_X11_isKey v1 = 0 ∧ ¬ (984 : Int32) < v3 ∧ ¬ f_X11_areOnTape v2 v3 M = 0
  · obtain ⟨q1, eq1⟩ : ∃ zz, zz = (v1).toNatClampNeg := ⟨_, rfl⟩
    obtain ⟨hvq1, hbq1⟩ : v1 = nI q1 ∧ q1 < 8 := by rw [eq1]; exact g_isKey hS.1
    rw [hvq1] at hl
    obtain ⟨q2, eq2⟩ : ∃ zz, zz = (v2).toNatClampNeg := ⟨_, rfl⟩
    obtain ⟨hvq2, hbq2⟩ : v2 = nI q2 ∧ q2 ≤ ts := by rw [eq2]; exact (g_areOnTape hts h1 hS.2.2).1
    rw [hvq2] at hl
    obtain ⟨q3, eq3⟩ : ∃ zz, zz = (v3).toNatClampNeg := ⟨_, rfl⟩
    obtain ⟨hvq3, hbq3⟩ : v3 = nI q3 ∧ v2.toNatClampNeg + q3 ≤ ts := by rw [eq3]; exact (g_areOnTape hts h1 hS.2.2).2
    rw [hvq3] at hl
    have hTq1 : ¬ f_X11_isKey (nI q1) = 0 := by rw [← hvq1]; exact hS.1
    have hTq3 : ¬ f_X11_areOnTape (nI q2) (nI q3) M = 0 := by rw [← hvq2, ← hvq3]; exact hS.2.2
    rw [← eq2] at hbq3
    have hq3 : q3 ≤ 984 := by have h9 := hS.2.1; rw [hvq3] at h9; exact Nat.not_lt.mp fun q => h9 (nI_lt q (by omega))
    refine lv_iload_n C.1 C.2.1 dX11_seal_0 rfl (lv_at hl 1 rfl) ?_
    refine m_csi C w hl csX11_61 (As := [.int (nI (q1))]) (rest := []) (c_X11_isKey l D b0 r M (nI (q1)) ) rfl rfl (Nat.le_of_ble_eq_true rfl) ⟨Nat.le_of_ble_eq_true rfl, Nat.le_of_ble_eq_true rfl⟩ ⟨Nat.zero_le _, Nat.zero_le _⟩ dX11_seal_1 (fun v_1 M9 H locs e9 w => ?_)
    obtain ⟨ev_1, e9⟩ := e9
    rw [e9] at w
    subst ev_1
    refine lv_if_eq (tgt := 26) C.1 C.2.1 dX11_seal_4 (by decide) (fun h_2 => absurd h_2 hTq1) (fun _ => ?_)
    refine lv_iload C.1 C.2.1 dX11_seal_7 (lv_at hl 4 rfl) ?_
    refine lv_sipush (v := 984) C.1 C.2.1 dX11_seal_9 (by decide) ?_
    refine m_icmp_gt (tgt := 26) (a := q3) (b := 984) C (by omega) (by omega) dX11_seal_12 (by decide) (fun h_3 => absurd h_3 (by omega)) (fun _ => ?_)
    refine lv_aload_n C.1 C.2.1 dX11_seal_15 rfl (lv_at hl 0 rfl) ?_
    refine lv_iload C.1 C.2.1 dX11_seal_16 (lv_at hl 3 rfl) ?_
    refine lv_iload C.1 C.2.1 dX11_seal_18 (lv_at hl 4 rfl) ?_
    refine m_cvi C w hl cvX11_121 (k := 0) (by decide) rfl (q := (RX11, TX11, 7)) rfl rfl (As := [.int (nI (q2)), .int (nI (q3))]) (rest := []) (c_X11_areOnTape l D b0 r M (nI (q2)) (nI (q3)) ) rfl rfl (Nat.le_of_ble_eq_true rfl) ⟨Nat.le_of_ble_eq_true rfl, Nat.le_of_ble_eq_true rfl⟩ ⟨Nat.zero_le _, Nat.zero_le _⟩ dX11_seal_20 (fun v_4 M9 H locs e9 w => ?_)
    obtain ⟨ev_4, e9⟩ := e9
    rw [e9] at w
    subst ev_4
    refine lv_if_ne (tgt := 29) C.1 C.2.1 dX11_seal_23 (by decide) (fun _ => ?_) (fun h_5 => absurd h_5 hTq3)
    refine lv_aload_n C.1 C.2.1 dX11_seal_29 rfl (lv_at hl 0 rfl) ?_
    refine m_cvv C w hl cvX11_68 (k := 0) (by decide) rfl (q := (RX11, TX11, 7)) rfl rfl (As := []) (rest := []) (c_X11_emptyTape l D b0 r M  ) rfl rfl (Nat.le_of_ble_eq_true rfl) ⟨Nat.le_of_ble_eq_true rfl, Nat.le_of_ble_eq_true rfl⟩ ⟨Nat.zero_le _, Nat.zero_le _⟩ dX11_seal_30 (fun M_6 H locs eM_6 w => ?_)
    refine lv_aload_n C.1 C.2.1 dX11_seal_33 rfl (lv_at hl 0 rfl) ?_
    refine m_get C w (k := 0) (j := 5) (v := .ref (r (12))) flX11_31 (by decide) rfl rfl dX11_seal_34 ?_
    refine m_get C w (k := 12) (j := 3) (v := .ref (r (31))) flX11_125 (by decide) rfl rfl dX11_seal_37 ?_
    refine lv_aload_n C.1 C.2.1 dX11_seal_40 rfl (lv_at hl 0 rfl) ?_
    refine m_get C w (k := 0) (j := 4) (v := .ref (r (3))) flX11_25 (by decide) rfl rfl dX11_seal_41 ?_
    refine lv_iload_n C.1 C.2.1 dX11_seal_44 rfl (lv_at hl 1 rfl) ?_
    refine m_aald C w (k := 3) (i := q1) (n := 8) (wr := true) (q := 4 + q1) (by decide) rfl rfl (by omega) (by decide) (mm_key_ds q1 (by omega)) dX11_seal_45 ?_
    refine lv_lload_n C.1 C.2.1 dX11_seal_46 rfl (lv_at hl 2 rfl) ?_
    refine m_cvv C w hl cvX11_129 (k := 31) (by decide) rfl (q := (RX0, TX0, 4)) rfl rfl (As := [.ref (r (4 + q1)), .long (w1)]) (rest := []) (c_X0_begin l D b0 r M_6 (4 + q1) (w1) (by omega) (mm_key q1 (by omega)) (by decide) (by omega)) rfl rfl (Nat.le_of_ble_eq_true rfl) ⟨Nat.le_of_ble_eq_true rfl, Nat.le_of_ble_eq_true rfl⟩ ⟨Nat.zero_le _, Nat.zero_le _⟩ dX11_seal_47 (fun M_7 H locs eM_7 w => ?_)
    refine lv_aload_n C.1 C.2.1 dX11_seal_50 rfl (lv_at hl 0 rfl) ?_
    refine m_get C w (k := 0) (j := 5) (v := .ref (r (12))) flX11_31 (by decide) rfl rfl dX11_seal_51 ?_
    refine m_get C w (k := 12) (j := 3) (v := .ref (r (31))) flX11_125 (by decide) rfl rfl dX11_seal_54 ?_
    refine lv_aload_n C.1 C.2.1 dX11_seal_57 rfl (lv_at hl 0 rfl) ?_
    refine m_get C w (k := 0) (j := 0) (v := .ref (r (1))) flX11_9 (by decide) rfl rfl dX11_seal_58 ?_
    refine lv_iload C.1 C.2.1 dX11_seal_61 (lv_at hl 3 rfl) ?_
    refine m_cvv C w hl cvX11_134 (k := 31) (by decide) rfl (q := (RX0, TX0, 4)) rfl rfl (As := [.ref (r (1)), .int (nI (q2))]) (rest := []) (c_X0_associate l D b0 r M_7 1 q2 (by decide) rfl (by decide) (by omega) (by omega)) rfl rfl (Nat.le_of_ble_eq_true rfl) ⟨Nat.le_of_ble_eq_true rfl, Nat.le_of_ble_eq_true rfl⟩ ⟨Nat.zero_le _, Nat.zero_le _⟩ dX11_seal_63 (fun M_8 H locs eM_8 w => ?_)
    refine lv_aload_n C.1 C.2.1 dX11_seal_66 rfl (lv_at hl 0 rfl) ?_
    refine m_get C w (k := 0) (j := 5) (v := .ref (r (12))) flX11_31 (by decide) rfl rfl dX11_seal_67 ?_
    refine m_get C w (k := 12) (j := 3) (v := .ref (r (31))) flX11_125 (by decide) rfl rfl dX11_seal_70 ?_
    refine lv_aload_n C.1 C.2.1 dX11_seal_73 rfl (lv_at hl 0 rfl) ?_
    refine m_get C w (k := 0) (j := 0) (v := .ref (r (1))) flX11_9 (by decide) rfl rfl dX11_seal_74 ?_
    refine lv_iload C.1 C.2.1 dX11_seal_77 (lv_at hl 3 rfl) ?_
    refine lv_iload C.1 C.2.1 dX11_seal_79 (lv_at hl 4 rfl) ?_
    refine lv_aload_n C.1 C.2.1 dX11_seal_81 rfl (lv_at hl 0 rfl) ?_
    refine m_get C w (k := 0) (j := 2) (v := .ref (r (2))) flX11_17 (by decide) rfl rfl dX11_seal_82 ?_
    refine lv_iconst (v := 0) C.1 C.2.1 dX11_seal_85 (by decide) ?_
    refine m_cvv C w hl cvX11_138 (k := 31) (by decide) rfl (q := (RX0, TX0, 4)) rfl rfl (As := [.ref (r (1)), .int (nI (q2)), .int (nI (q3)), .ref (r (2)), .int 0]) (rest := []) (c_X0_encrypt l D b0 r M_8 1 q2 q3 2 0 (by decide) rfl (by decide) (by omega) (by omega) (by decide) rfl (by decide) (by omega) (by omega)) rfl rfl (Nat.le_of_ble_eq_true rfl) ⟨Nat.le_of_ble_eq_true rfl, Nat.le_of_ble_eq_true rfl⟩ ⟨Nat.zero_le _, Nat.zero_le _⟩ dX11_seal_86 (fun M_9 H locs eM_9 w => ?_)
    refine lv_aload_n C.1 C.2.1 dX11_seal_89 rfl (lv_at hl 0 rfl) ?_
    refine lv_iload C.1 C.2.1 dX11_seal_90 (lv_at hl 4 rfl) ?_
    refine lv_bipush (v := 16) C.1 C.2.1 dX11_seal_92 (by decide) ?_
    refine lv_iadd C.1 C.2.1 dX11_seal_94 ?_
    refine m_i (y := nI (q3 + 16)) (nI_add q3 16) ?_
    refine m_cvi C w hl cvX11_106 (k := 0) (by decide) rfl (q := (RX11, TX11, 7)) rfl rfl (As := [.int (nI (q3 + 16))]) (rest := []) (c_X11_tell l D b0 r M_9 (nI (q3 + 16)) ) rfl rfl (Nat.le_of_ble_eq_true rfl) ⟨Nat.le_of_ble_eq_true rfl, Nat.le_of_ble_eq_true rfl⟩ ⟨Nat.zero_le _, Nat.zero_le _⟩ dX11_seal_95 (fun v_11 M_10 H locs e9 w => ?_)
    obtain ⟨ev_11, eM_10⟩ : v_11 = (f_X11_tell (nI (q3 + 16)) M_9).1 ∧ M_10 = (f_X11_tell (nI (q3 + 16)) M_9).2 := ⟨congrArg Prod.fst e9, congrArg Prod.snd e9⟩
    clear e9
    exact m_iret C w (by subst eq1 eq2 eq3 eM_6 eM_7 eM_8 eM_9 ev_11 eM_10; exact Eq.symm (((if_pos hS).trans rfl))) dX11_seal_98
  · refine lv_iload_n C.1 C.2.1 dX11_seal_0 rfl (lv_at hl 1 rfl) ?_
    refine m_csi C w hl csX11_61 (As := [.int (v1)]) (rest := []) (c_X11_isKey l D b0 r M (v1) ) rfl rfl (Nat.le_of_ble_eq_true rfl) ⟨Nat.le_of_ble_eq_true rfl, Nat.le_of_ble_eq_true rfl⟩ ⟨Nat.zero_le _, Nat.zero_le _⟩ dX11_seal_1 (fun v_12 M9 H locs e9 w => ?_)
    obtain ⟨ev_12, e9⟩ := e9
    rw [e9] at w
    subst ev_12
    refine lv_if_eq (tgt := 26) C.1 C.2.1 dX11_seal_4 (by decide) (fun h_13 => ?_) (fun h_13 => ?_)
    · refine lv_bipush (v := (-2)) C.1 C.2.1 dX11_seal_26 (by decide) ?_
      exact m_iret C w (by exact Eq.symm (((if_neg hS).trans ((if_pos h_13).trans rfl)))) dX11_seal_28
    · refine lv_iload C.1 C.2.1 dX11_seal_7 (lv_at hl 4 rfl) ?_
      refine lv_sipush (v := 984) C.1 C.2.1 dX11_seal_9 (by decide) ?_
      refine lv_icmp_gt (tgt := 26) C.1 C.2.1 dX11_seal_12 (by decide) (fun h_14 => ?_) (fun h_14 => ?_)
      · refine lv_bipush (v := (-2)) C.1 C.2.1 dX11_seal_26 (by decide) ?_
        exact m_iret C w (by exact Eq.symm (((if_neg hS).trans ((if_neg h_13).trans ((if_pos h_14).trans rfl))))) dX11_seal_28
      · refine lv_aload_n C.1 C.2.1 dX11_seal_15 rfl (lv_at hl 0 rfl) ?_
        refine lv_iload C.1 C.2.1 dX11_seal_16 (lv_at hl 3 rfl) ?_
        refine lv_iload C.1 C.2.1 dX11_seal_18 (lv_at hl 4 rfl) ?_
        refine m_cvi C w hl cvX11_121 (k := 0) (by decide) rfl (q := (RX11, TX11, 7)) rfl rfl (As := [.int (v2), .int (v3)]) (rest := []) (c_X11_areOnTape l D b0 r M (v2) (v3) ) rfl rfl (Nat.le_of_ble_eq_true rfl) ⟨Nat.le_of_ble_eq_true rfl, Nat.le_of_ble_eq_true rfl⟩ ⟨Nat.zero_le _, Nat.zero_le _⟩ dX11_seal_20 (fun v_15 M9 H locs e9 w => ?_)
        obtain ⟨ev_15, e9⟩ := e9
        rw [e9] at w
        subst ev_15
        refine lv_if_ne (tgt := 29) C.1 C.2.1 dX11_seal_23 (by decide) (fun h_16 => absurd h_16 (fun q => hS ⟨h_13, h_14, q⟩)) (fun _ => ?_)
        refine lv_bipush (v := (-2)) C.1 C.2.1 dX11_seal_26 (by decide) ?_
        exact m_iret C w (by exact Eq.symm (((if_neg hS).trans ((if_neg h_13).trans ((if_neg h_14).trans rfl))))) dX11_seal_28

def f_X11_open_B1 (q3 : Nat) (M_8 : mm_M) (v_9 : Int32) : Int32 × mm_M :=
  if (v_9) = (0 : Int32) then (let v_12 := (f_X11_tell (-1 : Int32) M_8).1
  let M_11 := (f_X11_tell (-1 : Int32) M_8).2
  ((v_12), M_11)) else (let v_14 := (f_X11_tell ((nI (q3)) - (16 : Int32)) M_8).1
  let M_13 := (f_X11_tell ((nI (q3)) - (16 : Int32)) M_8).2
  ((v_14), M_13))
theorem w_f_X11_open_B1 (q3 : Nat) (M_8 : mm_M) (v_9 : Int32) : mm_fr2 [0] M_8 (f_X11_open_B1 q3 M_8 v_9) := by
  unfold f_X11_open_B1
  exact (mm_fr_ite2 (fun _ => ((w_f_X11_tell _ _).m.on (by simp) (mm_fr_refl _ _)).b) (fun _ => ((w_f_X11_tell _ _).m.on (by simp) (mm_fr_refl _ _)).b))
def f_X11_open (v1 : Int32) (w1 : Int64) (v2 : Int32) (v3 : Int32) (ts : Nat) (M : mm_M) : Int32 × mm_M :=
  if ¬ f_X11_isKey v1 = 0 ∧ ¬ f_X11_areOnTape v2 v3 M = 0 then (let q1 := (v1).toNatClampNeg
  let q2 := (v2).toNatClampNeg
  let q3 := (v3).toNatClampNeg
  let M_5 := f_X11_emptyTape M
  let M_6 := f_X0_begin (4 + q1) (w1) M_5
  let M_7 := f_X0_associate 1 q2 M_6
  let v_9 := (f_X0_decrypt 1 q2 q3 2 0 M_7).1
  let M_8 := (f_X0_decrypt 1 q2 q3 2 0 M_7).2
  f_X11_open_B1 q3 M_8 v_9) else (if (f_X11_isKey (v1)) = (0 : Int32) then (((-2 : Int32), M)) else (((-2 : Int32), M)))
theorem w_f_X11_open (v1 : Int32) (w1 : Int64) (v2 : Int32) (v3 : Int32) (ts : Nat) (M : mm_M) : mm_fr2 [0, 34, 35, 33, 37, 40, 38, 39, 31, 41, 2] M (f_X11_open v1 w1 v2 v3 ts M) := by
  unfold f_X11_open
  exact (mm_fr_ite2 (fun _ => ((w_f_X11_open_B1 _ _ _).on (by simp) ((w_f_X0_decrypt _ _ _ _ _ _).m.on (by simp) ((w_f_X0_associate _ _ _).on (by simp) ((w_f_X0_begin _ _ _).on (by simp) ((w_f_X11_emptyTape _).on (by simp) (mm_fr_refl _ _))))))) (fun _ => (mm_fr_ite2 (fun _ => (mm_fr_refl _ _).b) (fun _ => (mm_fr_refl _ _).b))))
set_option maxHeartbeats 4000000 in
set_option maxRecDepth 100000 in
theorem c_X11_open (l : Launch) (D : va_G) (b0 : Nat) (r : Nat → Nat) (M : mm_M) (v1 : Int32) (w1 : Int64) (v2 : Int32) (v3 : Int32) (ts : Nat) (hts : ts ≤ 1000) (h1 : M.1 0 1 = nI ts) : mm_Mi l yX11_open cX11_open 6 .int 4 126 D b0 r [.ref (r (0)), .int (v1), .long (w1), .int (v2), .int (v3)] M (fun v M' => (v, M') = f_X11_open v1 w1 v2 v3 ts M) := by
  refine mm_enter (cc := cX11_open) (nL := 6) (ret := (some .int)) (by decide) (Nat.le_of_ble_eq_true rfl) ?_
  intro p e s m args below meth c C w ls hl
  have hl : lv_has ls 6 [(0, .ref (r (0))), (1, .int (v1)), (2, .long (w1)), (4, .int (v2)), (5, .int (v3))] := hl
  by_cases hS : ¬ f_X11_isKey v1 = 0 ∧ ¬ f_X11_areOnTape v2 v3 M = 0
  · obtain ⟨q1, eq1⟩ : ∃ zz, zz = (v1).toNatClampNeg := ⟨_, rfl⟩
    obtain ⟨hvq1, hbq1⟩ : v1 = nI q1 ∧ q1 < 8 := by rw [eq1]; exact g_isKey hS.1
    rw [hvq1] at hl
    obtain ⟨q2, eq2⟩ : ∃ zz, zz = (v2).toNatClampNeg := ⟨_, rfl⟩
    obtain ⟨hvq2, hbq2⟩ : v2 = nI q2 ∧ q2 ≤ ts := by rw [eq2]; exact (g_areOnTape hts h1 hS.2).1
    rw [hvq2] at hl
    obtain ⟨q3, eq3⟩ : ∃ zz, zz = (v3).toNatClampNeg := ⟨_, rfl⟩
    obtain ⟨hvq3, hbq3⟩ : v3 = nI q3 ∧ v2.toNatClampNeg + q3 ≤ ts := by rw [eq3]; exact (g_areOnTape hts h1 hS.2).2
    rw [hvq3] at hl
    have hTq1 : ¬ f_X11_isKey (nI q1) = 0 := by rw [← hvq1]; exact hS.1
    have hTq3 : ¬ f_X11_areOnTape (nI q2) (nI q3) M = 0 := by rw [← hvq2, ← hvq3]; exact hS.2
    rw [← eq2] at hbq3
    refine lv_iload_n C.1 C.2.1 dX11_open_0 rfl (lv_at hl 1 rfl) ?_
    refine m_csi C w hl csX11_61 (As := [.int (nI (q1))]) (rest := []) (c_X11_isKey l D b0 r M (nI (q1)) ) rfl rfl (Nat.le_of_ble_eq_true rfl) ⟨Nat.le_of_ble_eq_true rfl, Nat.le_of_ble_eq_true rfl⟩ ⟨Nat.zero_le _, Nat.zero_le _⟩ dX11_open_1 (fun v_1 M9 H locs e9 w => ?_)
    obtain ⟨ev_1, e9⟩ := e9
    rw [e9] at w
    subst ev_1
    refine lv_if_eq (tgt := 18) C.1 C.2.1 dX11_open_4 (by decide) (fun h_2 => absurd h_2 hTq1) (fun _ => ?_)
    refine lv_aload_n C.1 C.2.1 dX11_open_7 rfl (lv_at hl 0 rfl) ?_
    refine lv_iload C.1 C.2.1 dX11_open_8 (lv_at hl 3 rfl) ?_
    refine lv_iload C.1 C.2.1 dX11_open_10 (lv_at hl 4 rfl) ?_
    refine m_cvi C w hl cvX11_121 (k := 0) (by decide) rfl (q := (RX11, TX11, 7)) rfl rfl (As := [.int (nI (q2)), .int (nI (q3))]) (rest := []) (c_X11_areOnTape l D b0 r M (nI (q2)) (nI (q3)) ) rfl rfl (Nat.le_of_ble_eq_true rfl) ⟨Nat.le_of_ble_eq_true rfl, Nat.le_of_ble_eq_true rfl⟩ ⟨Nat.zero_le _, Nat.zero_le _⟩ dX11_open_12 (fun v_3 M9 H locs e9 w => ?_)
    obtain ⟨ev_3, e9⟩ := e9
    rw [e9] at w
    subst ev_3
    refine lv_if_ne (tgt := 21) C.1 C.2.1 dX11_open_15 (by decide) (fun _ => ?_) (fun h_4 => absurd h_4 hTq3)
    refine lv_aload_n C.1 C.2.1 dX11_open_21 rfl (lv_at hl 0 rfl) ?_
    refine m_cvv C w hl cvX11_68 (k := 0) (by decide) rfl (q := (RX11, TX11, 7)) rfl rfl (As := []) (rest := []) (c_X11_emptyTape l D b0 r M  ) rfl rfl (Nat.le_of_ble_eq_true rfl) ⟨Nat.le_of_ble_eq_true rfl, Nat.le_of_ble_eq_true rfl⟩ ⟨Nat.zero_le _, Nat.zero_le _⟩ dX11_open_22 (fun M_5 H locs eM_5 w => ?_)
    refine lv_aload_n C.1 C.2.1 dX11_open_25 rfl (lv_at hl 0 rfl) ?_
    refine m_get C w (k := 0) (j := 5) (v := .ref (r (12))) flX11_31 (by decide) rfl rfl dX11_open_26 ?_
    refine m_get C w (k := 12) (j := 3) (v := .ref (r (31))) flX11_125 (by decide) rfl rfl dX11_open_29 ?_
    refine lv_aload_n C.1 C.2.1 dX11_open_32 rfl (lv_at hl 0 rfl) ?_
    refine m_get C w (k := 0) (j := 4) (v := .ref (r (3))) flX11_25 (by decide) rfl rfl dX11_open_33 ?_
    refine lv_iload_n C.1 C.2.1 dX11_open_36 rfl (lv_at hl 1 rfl) ?_
    refine m_aald C w (k := 3) (i := q1) (n := 8) (wr := true) (q := 4 + q1) (by decide) rfl rfl (by omega) (by decide) (mm_key_ds q1 (by omega)) dX11_open_37 ?_
    refine lv_lload_n C.1 C.2.1 dX11_open_38 rfl (lv_at hl 2 rfl) ?_
    refine m_cvv C w hl cvX11_129 (k := 31) (by decide) rfl (q := (RX0, TX0, 4)) rfl rfl (As := [.ref (r (4 + q1)), .long (w1)]) (rest := []) (c_X0_begin l D b0 r M_5 (4 + q1) (w1) (by omega) (mm_key q1 (by omega)) (by decide) (by omega)) rfl rfl (Nat.le_of_ble_eq_true rfl) ⟨Nat.le_of_ble_eq_true rfl, Nat.le_of_ble_eq_true rfl⟩ ⟨Nat.zero_le _, Nat.zero_le _⟩ dX11_open_39 (fun M_6 H locs eM_6 w => ?_)
    refine lv_aload_n C.1 C.2.1 dX11_open_42 rfl (lv_at hl 0 rfl) ?_
    refine m_get C w (k := 0) (j := 5) (v := .ref (r (12))) flX11_31 (by decide) rfl rfl dX11_open_43 ?_
    refine m_get C w (k := 12) (j := 3) (v := .ref (r (31))) flX11_125 (by decide) rfl rfl dX11_open_46 ?_
    refine lv_aload_n C.1 C.2.1 dX11_open_49 rfl (lv_at hl 0 rfl) ?_
    refine m_get C w (k := 0) (j := 0) (v := .ref (r (1))) flX11_9 (by decide) rfl rfl dX11_open_50 ?_
    refine lv_iload C.1 C.2.1 dX11_open_53 (lv_at hl 3 rfl) ?_
    refine m_cvv C w hl cvX11_134 (k := 31) (by decide) rfl (q := (RX0, TX0, 4)) rfl rfl (As := [.ref (r (1)), .int (nI (q2))]) (rest := []) (c_X0_associate l D b0 r M_6 1 q2 (by decide) rfl (by decide) (by omega) (by omega)) rfl rfl (Nat.le_of_ble_eq_true rfl) ⟨Nat.le_of_ble_eq_true rfl, Nat.le_of_ble_eq_true rfl⟩ ⟨Nat.zero_le _, Nat.zero_le _⟩ dX11_open_55 (fun M_7 H locs eM_7 w => ?_)
    refine lv_aload_n C.1 C.2.1 dX11_open_58 rfl (lv_at hl 0 rfl) ?_
    refine lv_aload_n C.1 C.2.1 dX11_open_59 rfl (lv_at hl 0 rfl) ?_
    refine m_get C w (k := 0) (j := 5) (v := .ref (r (12))) flX11_31 (by decide) rfl rfl dX11_open_60 ?_
    refine m_get C w (k := 12) (j := 3) (v := .ref (r (31))) flX11_125 (by decide) rfl rfl dX11_open_63 ?_
    refine lv_aload_n C.1 C.2.1 dX11_open_66 rfl (lv_at hl 0 rfl) ?_
    refine m_get C w (k := 0) (j := 0) (v := .ref (r (1))) flX11_9 (by decide) rfl rfl dX11_open_67 ?_
    refine lv_iload C.1 C.2.1 dX11_open_70 (lv_at hl 3 rfl) ?_
    refine lv_iload C.1 C.2.1 dX11_open_72 (lv_at hl 4 rfl) ?_
    refine lv_aload_n C.1 C.2.1 dX11_open_74 rfl (lv_at hl 0 rfl) ?_
    refine m_get C w (k := 0) (j := 2) (v := .ref (r (2))) flX11_17 (by decide) rfl rfl dX11_open_75 ?_
    refine lv_iconst (v := 0) C.1 C.2.1 dX11_open_78 (by decide) ?_
    refine m_cvi C w hl cvX11_142 (k := 31) (by decide) rfl (q := (RX0, TX0, 4)) rfl rfl (As := [.ref (r (1)), .int (nI (q2)), .int (nI (q3)), .ref (r (2)), .int 0]) (rest := [.ref (r (0))]) (c_X0_decrypt l D b0 r M_7 1 q2 q3 2 0 (by decide) rfl (by decide) (by omega) (by omega) (by decide) rfl (by decide) (by omega) (by omega)) rfl rfl (Nat.le_of_ble_eq_true rfl) ⟨Nat.le_of_ble_eq_true rfl, Nat.le_of_ble_eq_true rfl⟩ ⟨Nat.zero_le _, Nat.zero_le _⟩ dX11_open_79 (fun v_9 M_8 H locs e9 w => ?_)
    obtain ⟨ev_9, eM_8⟩ : v_9 = (f_X0_decrypt 1 q2 q3 2 0 M_7).1 ∧ M_8 = (f_X0_decrypt 1 q2 q3 2 0 M_7).2 := ⟨congrArg Prod.fst e9, congrArg Prod.snd e9⟩
    clear e9
    refine lv_if_eq (tgt := 93) C.1 C.2.1 dX11_open_82 (by decide) (fun h_10 => ?_) (fun h_10 => ?_)
    · refine lv_iconst (v := (-1)) C.1 C.2.1 dX11_open_93 (by decide) ?_
      refine m_cvi C w hl cvX11_106 (k := 0) (by decide) rfl (q := (RX11, TX11, 7)) rfl rfl (As := [.int (-1)]) (rest := []) (c_X11_tell l D b0 r M_8 (-1 : Int32) ) rfl rfl (Nat.le_of_ble_eq_true rfl) ⟨Nat.le_of_ble_eq_true rfl, Nat.le_of_ble_eq_true rfl⟩ ⟨Nat.zero_le _, Nat.zero_le _⟩ dX11_open_94 (fun v_12 M_11 H locs e9 w => ?_)
      obtain ⟨ev_12, eM_11⟩ : v_12 = (f_X11_tell (-1 : Int32) M_8).1 ∧ M_11 = (f_X11_tell (-1 : Int32) M_8).2 := ⟨congrArg Prod.fst e9, congrArg Prod.snd e9⟩
      clear e9
      exact m_iret C w (by subst eq1 eq2 eq3 eM_5 eM_6 eM_7 ev_9 eM_8 ev_12 eM_11; exact Eq.symm (((if_pos hS).trans ((if_pos h_10).trans rfl)))) dX11_open_97
    · refine lv_iload C.1 C.2.1 dX11_open_85 (lv_at hl 4 rfl) ?_
      refine lv_bipush (v := 16) C.1 C.2.1 dX11_open_87 (by decide) ?_
      refine lv_isub C.1 C.2.1 dX11_open_89 ?_
      refine lv_goto (tgt := 94) C.1 C.2.1 dX11_open_90 (by decide) ?_
      refine m_cvi C w hl cvX11_106 (k := 0) (by decide) rfl (q := (RX11, TX11, 7)) rfl rfl (As := [.int ((nI (q3)) - (16 : Int32))]) (rest := []) (c_X11_tell l D b0 r M_8 ((nI (q3)) - (16 : Int32)) ) rfl rfl (Nat.le_of_ble_eq_true rfl) ⟨Nat.le_of_ble_eq_true rfl, Nat.le_of_ble_eq_true rfl⟩ ⟨Nat.zero_le _, Nat.zero_le _⟩ dX11_open_94 (fun v_14 M_13 H locs e9 w => ?_)
      obtain ⟨ev_14, eM_13⟩ : v_14 = (f_X11_tell ((nI (q3)) - (16 : Int32)) M_8).1 ∧ M_13 = (f_X11_tell ((nI (q3)) - (16 : Int32)) M_8).2 := ⟨congrArg Prod.fst e9, congrArg Prod.snd e9⟩
      clear e9
      exact m_iret C w (by subst eq1 eq2 eq3 eM_5 eM_6 eM_7 ev_9 eM_8 ev_14 eM_13; exact Eq.symm (((if_pos hS).trans ((if_neg h_10).trans rfl)))) dX11_open_97
  · refine lv_iload_n C.1 C.2.1 dX11_open_0 rfl (lv_at hl 1 rfl) ?_
    refine m_csi C w hl csX11_61 (As := [.int (v1)]) (rest := []) (c_X11_isKey l D b0 r M (v1) ) rfl rfl (Nat.le_of_ble_eq_true rfl) ⟨Nat.le_of_ble_eq_true rfl, Nat.le_of_ble_eq_true rfl⟩ ⟨Nat.zero_le _, Nat.zero_le _⟩ dX11_open_1 (fun v_15 M9 H locs e9 w => ?_)
    obtain ⟨ev_15, e9⟩ := e9
    rw [e9] at w
    subst ev_15
    refine lv_if_eq (tgt := 18) C.1 C.2.1 dX11_open_4 (by decide) (fun h_16 => ?_) (fun h_16 => ?_)
    · refine lv_bipush (v := (-2)) C.1 C.2.1 dX11_open_18 (by decide) ?_
      exact m_iret C w (by exact Eq.symm (((if_neg hS).trans ((if_pos h_16).trans rfl)))) dX11_open_20
    · refine lv_aload_n C.1 C.2.1 dX11_open_7 rfl (lv_at hl 0 rfl) ?_
      refine lv_iload C.1 C.2.1 dX11_open_8 (lv_at hl 3 rfl) ?_
      refine lv_iload C.1 C.2.1 dX11_open_10 (lv_at hl 4 rfl) ?_
      refine m_cvi C w hl cvX11_121 (k := 0) (by decide) rfl (q := (RX11, TX11, 7)) rfl rfl (As := [.int (v2), .int (v3)]) (rest := []) (c_X11_areOnTape l D b0 r M (v2) (v3) ) rfl rfl (Nat.le_of_ble_eq_true rfl) ⟨Nat.le_of_ble_eq_true rfl, Nat.le_of_ble_eq_true rfl⟩ ⟨Nat.zero_le _, Nat.zero_le _⟩ dX11_open_12 (fun v_17 M9 H locs e9 w => ?_)
      obtain ⟨ev_17, e9⟩ := e9
      rw [e9] at w
      subst ev_17
      refine lv_if_ne (tgt := 21) C.1 C.2.1 dX11_open_15 (by decide) (fun h_18 => absurd h_18 (fun q => hS ⟨h_16, q⟩)) (fun _ => ?_)
      refine lv_bipush (v := (-2)) C.1 C.2.1 dX11_open_18 (by decide) ?_
      exact m_iret C w (by exact Eq.symm (((if_neg hS).trans ((if_neg h_16).trans rfl)))) dX11_open_20

def f_X11_start (v1 : Int32) (v2 : Int32) (v3 : Int32) (v4 : Int32) (v5 : Int32) (ts : Nat) (M : mm_M) : Int32 × mm_M :=
  if ¬ f_X11_isSession v1 = 0 ∧ ¬ f_X11_isKey v3 = 0 ∧ ¬ f_X11_isKey v4 = 0 ∧ ¬ f_X11_isOnTape v5 M = 0 then (let q1 := (v1).toNatClampNeg
  let q3 := (v3).toNatClampNeg
  let q4 := (v4).toNatClampNeg
  let q5 := (v5).toNatClampNeg
  let M_9 := f_X11_emptyTape M
  let M_10 := f_X7_begin (49 + 17 * q1) (v2) (4 + q3) (4 + q4) q5 M_9
  ((1 : Int32), M_10)) else (if (f_X11_isSession (v1)) = (0 : Int32) then (((0 : Int32), M)) else (if (f_X11_isKey (v3)) = (0 : Int32) then (((0 : Int32), M)) else (if (f_X11_isKey (v4)) = (0 : Int32) then (((0 : Int32), M)) else (((0 : Int32), M)))))
theorem w_f_X11_start (v1 : Int32) (v2 : Int32) (v3 : Int32) (v4 : Int32) (v5 : Int32) (ts : Nat) (M : mm_M) : mm_fr2 [0, (49 + 17 * v1.toNatClampNeg), (49 + 17 * v1.toNatClampNeg) + 1, (49 + 17 * v1.toNatClampNeg) + 2, ((49 + 17 * v1.toNatClampNeg) + 11), ((49 + 17 * v1.toNatClampNeg) + 14), (((49 + 17 * v1.toNatClampNeg) + 5) + 3), (49 + 17 * v1.toNatClampNeg) + 6, (49 + 17 * v1.toNatClampNeg) + 7, 24, 23, 26, 25, (((49 + 17 * v1.toNatClampNeg) + 5) + 1)] M (f_X11_start v1 v2 v3 v4 v5 ts M) := by
  unfold f_X11_start
  exact (mm_fr_ite2 (fun _ => ((w_f_X7_begin _ _ _ _ _ _).on (by simp) ((w_f_X11_emptyTape _).on (by simp) (mm_fr_refl _ _))).b) (fun _ => (mm_fr_ite2 (fun _ => (mm_fr_refl _ _).b) (fun _ => (mm_fr_ite2 (fun _ => (mm_fr_refl _ _).b) (fun _ => (mm_fr_ite2 (fun _ => (mm_fr_refl _ _).b) (fun _ => (mm_fr_refl _ _).b))))))))
set_option maxHeartbeats 4000000 in
set_option maxRecDepth 100000 in
theorem c_X11_start (l : Launch) (D : va_G) (b0 : Nat) (r : Nat → Nat) (M : mm_M) (v1 : Int32) (v2 : Int32) (v3 : Int32) (v4 : Int32) (v5 : Int32) (ts : Nat) (hts : ts ≤ 1000) (h1 : M.1 0 1 = nI ts) (hb : v2 = 0 ∨ v2 = 1) : mm_Mi l yX11_start cX11_start 6 .boolean 6 131 D b0 r [.ref (r (0)), .int (v1), .int (v2), .int (v3), .int (v4), .int (v5)] M (fun v M' => (v, M') = f_X11_start v1 v2 v3 v4 v5 ts M) := by
  refine mm_enter (cc := cX11_start) (nL := 6) (ret := (some .boolean)) (by decide) (Nat.le_of_ble_eq_true rfl) ?_
  intro p e s m args below meth c C w ls hl
  have hl : lv_has ls 6 [(0, .ref (r (0))), (1, .int (v1)), (2, .int (v2)), (3, .int (v3)), (4, .int (v4)), (5, .int (v5))] := hl
  by_cases hS : ¬ f_X11_isSession v1 = 0 ∧ ¬ f_X11_isKey v3 = 0 ∧ ¬ f_X11_isKey v4 = 0 ∧ ¬ f_X11_isOnTape v5 M = 0
  · obtain ⟨q1, eq1⟩ : ∃ zz, zz = (v1).toNatClampNeg := ⟨_, rfl⟩
    obtain ⟨hvq1, hbq1⟩ : v1 = nI q1 ∧ q1 < 4 := by rw [eq1]; exact g_isSession hS.1
    rw [hvq1] at hl
    obtain ⟨q3, eq3⟩ : ∃ zz, zz = (v3).toNatClampNeg := ⟨_, rfl⟩
    obtain ⟨hvq3, hbq3⟩ : v3 = nI q3 ∧ q3 < 8 := by rw [eq3]; exact g_isKey hS.2.1
    rw [hvq3] at hl
    obtain ⟨q4, eq4⟩ : ∃ zz, zz = (v4).toNatClampNeg := ⟨_, rfl⟩
    obtain ⟨hvq4, hbq4⟩ : v4 = nI q4 ∧ q4 < 8 := by rw [eq4]; exact g_isKey hS.2.2.1
    rw [hvq4] at hl
    obtain ⟨q5, eq5⟩ : ∃ zz, zz = (v5).toNatClampNeg := ⟨_, rfl⟩
    obtain ⟨hvq5, hbq5⟩ : v5 = nI q5 ∧ q5 ≤ ts := by rw [eq5]; exact g_isOnTape hts h1 hS.2.2.2
    rw [hvq5] at hl
    have hTq1 : ¬ f_X11_isSession (nI q1) = 0 := by rw [← hvq1]; exact hS.1
    have hTq3 : ¬ f_X11_isKey (nI q3) = 0 := by rw [← hvq3]; exact hS.2.1
    have hTq4 : ¬ f_X11_isKey (nI q4) = 0 := by rw [← hvq4]; exact hS.2.2.1
    have hTq5 : ¬ f_X11_isOnTape (nI q5) M = 0 := by rw [← hvq5]; exact hS.2.2.2
    refine lv_iload_n C.1 C.2.1 dX11_start_0 rfl (lv_at hl 1 rfl) ?_
    refine m_csi C w hl csX11_146 (As := [.int (nI (q1))]) (rest := []) (c_X11_isSession l D b0 r M (nI (q1)) ) rfl rfl (Nat.le_of_ble_eq_true rfl) ⟨Nat.le_of_ble_eq_true rfl, Nat.le_of_ble_eq_true rfl⟩ ⟨Nat.zero_le _, Nat.zero_le _⟩ dX11_start_1 (fun v_1 M9 H locs e9 w => ?_)
    obtain ⟨ev_1, e9⟩ := e9
    rw [e9] at w
    subst ev_1
    refine lv_if_eq (tgt := 31) C.1 C.2.1 dX11_start_4 (by decide) (fun h_2 => absurd h_2 hTq1) (fun _ => ?_)
    refine lv_iload_n C.1 C.2.1 dX11_start_7 rfl (lv_at hl 3 rfl) ?_
    refine m_csi C w hl csX11_61 (As := [.int (nI (q3))]) (rest := []) (c_X11_isKey l D b0 r M (nI (q3)) ) rfl rfl (Nat.le_of_ble_eq_true rfl) ⟨Nat.le_of_ble_eq_true rfl, Nat.le_of_ble_eq_true rfl⟩ ⟨Nat.zero_le _, Nat.zero_le _⟩ dX11_start_8 (fun v_3 M9 H locs e9 w => ?_)
    obtain ⟨ev_3, e9⟩ := e9
    rw [e9] at w
    subst ev_3
    refine lv_if_eq (tgt := 31) C.1 C.2.1 dX11_start_11 (by decide) (fun h_4 => absurd h_4 hTq3) (fun _ => ?_)
    refine lv_iload C.1 C.2.1 dX11_start_14 (lv_at hl 4 rfl) ?_
    refine m_csi C w hl csX11_61 (As := [.int (nI (q4))]) (rest := []) (c_X11_isKey l D b0 r M (nI (q4)) ) rfl rfl (Nat.le_of_ble_eq_true rfl) ⟨Nat.le_of_ble_eq_true rfl, Nat.le_of_ble_eq_true rfl⟩ ⟨Nat.zero_le _, Nat.zero_le _⟩ dX11_start_16 (fun v_5 M9 H locs e9 w => ?_)
    obtain ⟨ev_5, e9⟩ := e9
    rw [e9] at w
    subst ev_5
    refine lv_if_eq (tgt := 31) C.1 C.2.1 dX11_start_19 (by decide) (fun h_6 => absurd h_6 hTq4) (fun _ => ?_)
    refine lv_aload_n C.1 C.2.1 dX11_start_22 rfl (lv_at hl 0 rfl) ?_
    refine lv_iload C.1 C.2.1 dX11_start_23 (lv_at hl 5 rfl) ?_
    refine m_cvi C w hl cvX11_65 (k := 0) (by decide) rfl (q := (RX11, TX11, 7)) rfl rfl (As := [.int (nI (q5))]) (rest := []) (c_X11_isOnTape l D b0 r M (nI (q5)) ) rfl rfl (Nat.le_of_ble_eq_true rfl) ⟨Nat.le_of_ble_eq_true rfl, Nat.le_of_ble_eq_true rfl⟩ ⟨Nat.zero_le _, Nat.zero_le _⟩ dX11_start_25 (fun v_7 M9 H locs e9 w => ?_)
    obtain ⟨ev_7, e9⟩ := e9
    rw [e9] at w
    subst ev_7
    refine lv_if_ne (tgt := 33) C.1 C.2.1 dX11_start_28 (by decide) (fun _ => ?_) (fun h_8 => absurd h_8 hTq5)
    refine lv_aload_n C.1 C.2.1 dX11_start_33 rfl (lv_at hl 0 rfl) ?_
    refine m_cvv C w hl cvX11_68 (k := 0) (by decide) rfl (q := (RX11, TX11, 7)) rfl rfl (As := []) (rest := []) (c_X11_emptyTape l D b0 r M  ) rfl rfl (Nat.le_of_ble_eq_true rfl) ⟨Nat.le_of_ble_eq_true rfl, Nat.le_of_ble_eq_true rfl⟩ ⟨Nat.zero_le _, Nat.zero_le _⟩ dX11_start_34 (fun M_9 H locs eM_9 w => ?_)
    refine lv_aload_n C.1 C.2.1 dX11_start_37 rfl (lv_at hl 0 rfl) ?_
    refine m_get C w (k := 0) (j := 6) (v := .ref (r (42))) flX11_37 (by decide) rfl rfl dX11_start_38 ?_
    refine lv_iload_n C.1 C.2.1 dX11_start_41 rfl (lv_at hl 1 rfl) ?_
    refine m_aald C w (k := 42) (i := q1) (n := 4) (wr := true) (q := 49 + 17 * q1) (by decide) rfl rfl (by omega) (by decide) (mm_ses_ds q1 (by omega)) dX11_start_42 ?_
    refine lv_iload_n C.1 C.2.1 dX11_start_43 rfl (lv_at hl 2 rfl) ?_
    refine lv_aload_n C.1 C.2.1 dX11_start_44 rfl (lv_at hl 0 rfl) ?_
    refine m_get C w (k := 0) (j := 4) (v := .ref (r (3))) flX11_25 (by decide) rfl rfl dX11_start_45 ?_
    refine lv_iload_n C.1 C.2.1 dX11_start_48 rfl (lv_at hl 3 rfl) ?_
    refine m_aald C w (k := 3) (i := q3) (n := 8) (wr := true) (q := 4 + q3) (by decide) rfl rfl (by omega) (by decide) (mm_key_ds q3 (by omega)) dX11_start_49 ?_
    refine lv_aload_n C.1 C.2.1 dX11_start_50 rfl (lv_at hl 0 rfl) ?_
    refine m_get C w (k := 0) (j := 4) (v := .ref (r (3))) flX11_25 (by decide) rfl rfl dX11_start_51 ?_
    refine lv_iload C.1 C.2.1 dX11_start_54 (lv_at hl 4 rfl) ?_
    refine m_aald C w (k := 3) (i := q4) (n := 8) (wr := true) (q := 4 + q4) (by decide) rfl rfl (by omega) (by decide) (mm_key_ds q4 (by omega)) dX11_start_56 ?_
    refine lv_aload_n C.1 C.2.1 dX11_start_57 rfl (lv_at hl 0 rfl) ?_
    refine m_get C w (k := 0) (j := 0) (v := .ref (r (1))) flX11_9 (by decide) rfl rfl dX11_start_58 ?_
    refine lv_iload C.1 C.2.1 dX11_start_61 (lv_at hl 5 rfl) ?_
    refine m_cvv C w hl cvX11_149 (k := 49 + 17 * q1) (by have := (mm_ses_of q1 (by omega)).1; omega) (mm_ses_of q1 (by omega)).2.2.1 (q := (RX7, TX7, 12)) rfl rfl (As := [.int (v2), .ref (r (4 + q3)), .ref (r (4 + q4)), .ref (r (1)), .int (nI (q5))]) (rest := []) (c_X7_begin l D b0 r M_9 (49 + 17 * q1) (v2) (4 + q3) (4 + q4) q5 (mm_ses_of q1 (by omega)) hb (by omega) (mm_key q3 (by omega)) (by decide) (by omega) (by omega) (mm_key q4 (by omega)) (by decide) (by omega) (by omega)) rfl rfl (Nat.le_of_ble_eq_true rfl) ⟨Nat.le_of_ble_eq_true rfl, Nat.le_of_ble_eq_true rfl⟩ ⟨Nat.zero_le _, Nat.zero_le _⟩ dX11_start_63 (fun M_10 H locs eM_10 w => ?_)
    refine lv_iconst (v := 1) C.1 C.2.1 dX11_start_66 (by decide) ?_
    exact m_zret C w (by decide) (by subst eq1 eq3 eq4 eq5 eM_9 eM_10; exact Eq.symm (((if_pos hS).trans rfl))) dX11_start_67
  · refine lv_iload_n C.1 C.2.1 dX11_start_0 rfl (lv_at hl 1 rfl) ?_
    refine m_csi C w hl csX11_146 (As := [.int (v1)]) (rest := []) (c_X11_isSession l D b0 r M (v1) ) rfl rfl (Nat.le_of_ble_eq_true rfl) ⟨Nat.le_of_ble_eq_true rfl, Nat.le_of_ble_eq_true rfl⟩ ⟨Nat.zero_le _, Nat.zero_le _⟩ dX11_start_1 (fun v_11 M9 H locs e9 w => ?_)
    obtain ⟨ev_11, e9⟩ := e9
    rw [e9] at w
    subst ev_11
    refine lv_if_eq (tgt := 31) C.1 C.2.1 dX11_start_4 (by decide) (fun h_12 => ?_) (fun h_12 => ?_)
    · refine lv_iconst (v := 0) C.1 C.2.1 dX11_start_31 (by decide) ?_
      exact m_zret C w (by decide) (by exact Eq.symm (((if_neg hS).trans ((if_pos h_12).trans rfl)))) dX11_start_32
    · refine lv_iload_n C.1 C.2.1 dX11_start_7 rfl (lv_at hl 3 rfl) ?_
      refine m_csi C w hl csX11_61 (As := [.int (v3)]) (rest := []) (c_X11_isKey l D b0 r M (v3) ) rfl rfl (Nat.le_of_ble_eq_true rfl) ⟨Nat.le_of_ble_eq_true rfl, Nat.le_of_ble_eq_true rfl⟩ ⟨Nat.zero_le _, Nat.zero_le _⟩ dX11_start_8 (fun v_13 M9 H locs e9 w => ?_)
      obtain ⟨ev_13, e9⟩ := e9
      rw [e9] at w
      subst ev_13
      refine lv_if_eq (tgt := 31) C.1 C.2.1 dX11_start_11 (by decide) (fun h_14 => ?_) (fun h_14 => ?_)
      · refine lv_iconst (v := 0) C.1 C.2.1 dX11_start_31 (by decide) ?_
        exact m_zret C w (by decide) (by exact Eq.symm (((if_neg hS).trans ((if_neg h_12).trans ((if_pos h_14).trans rfl))))) dX11_start_32
      · refine lv_iload C.1 C.2.1 dX11_start_14 (lv_at hl 4 rfl) ?_
        refine m_csi C w hl csX11_61 (As := [.int (v4)]) (rest := []) (c_X11_isKey l D b0 r M (v4) ) rfl rfl (Nat.le_of_ble_eq_true rfl) ⟨Nat.le_of_ble_eq_true rfl, Nat.le_of_ble_eq_true rfl⟩ ⟨Nat.zero_le _, Nat.zero_le _⟩ dX11_start_16 (fun v_15 M9 H locs e9 w => ?_)
        obtain ⟨ev_15, e9⟩ := e9
        rw [e9] at w
        subst ev_15
        refine lv_if_eq (tgt := 31) C.1 C.2.1 dX11_start_19 (by decide) (fun h_16 => ?_) (fun h_16 => ?_)
        · refine lv_iconst (v := 0) C.1 C.2.1 dX11_start_31 (by decide) ?_
          exact m_zret C w (by decide) (by exact Eq.symm (((if_neg hS).trans ((if_neg h_12).trans ((if_neg h_14).trans ((if_pos h_16).trans rfl)))))) dX11_start_32
        · refine lv_aload_n C.1 C.2.1 dX11_start_22 rfl (lv_at hl 0 rfl) ?_
          refine lv_iload C.1 C.2.1 dX11_start_23 (lv_at hl 5 rfl) ?_
          refine m_cvi C w hl cvX11_65 (k := 0) (by decide) rfl (q := (RX11, TX11, 7)) rfl rfl (As := [.int (v5)]) (rest := []) (c_X11_isOnTape l D b0 r M (v5) ) rfl rfl (Nat.le_of_ble_eq_true rfl) ⟨Nat.le_of_ble_eq_true rfl, Nat.le_of_ble_eq_true rfl⟩ ⟨Nat.zero_le _, Nat.zero_le _⟩ dX11_start_25 (fun v_17 M9 H locs e9 w => ?_)
          obtain ⟨ev_17, e9⟩ := e9
          rw [e9] at w
          subst ev_17
          refine lv_if_ne (tgt := 33) C.1 C.2.1 dX11_start_28 (by decide) (fun h_18 => absurd h_18 (fun q => hS ⟨h_12, h_14, h_16, q⟩)) (fun _ => ?_)
          refine lv_iconst (v := 0) C.1 C.2.1 dX11_start_31 (by decide) ?_
          exact m_zret C w (by decide) (by exact Eq.symm (((if_neg hS).trans ((if_neg h_12).trans ((if_neg h_14).trans ((if_neg h_16).trans rfl)))))) dX11_start_32

def f_X11_state (v1 : Int32) (v2 : Int32) (M : mm_M) : Int32 :=
  if ¬ f_X11_hasBegun v1 M = 0 then (let q1 := (v1).toNatClampNeg
  (f_X7_figure (49 + 17 * q1) (v2) M)) else ((-1 : Int32))
set_option maxHeartbeats 4000000 in
set_option maxRecDepth 100000 in
theorem c_X11_state (l : Launch) (D : va_G) (b0 : Nat) (r : Nat → Nat) (M : mm_M) (v1 : Int32) (v2 : Int32)  : mm_Mi l yX11_state cX11_state 3 .int 2 41 D b0 r [.ref (r (0)), .int (v1), .int (v2)] M (fun v M' => v = f_X11_state v1 v2 M ∧ M' = M) := by
  refine mm_enter (cc := cX11_state) (nL := 3) (ret := (some .int)) (by decide) (Nat.le_of_ble_eq_true rfl) ?_
  intro p e s m args below meth c C w ls hl
  have hl : lv_has ls 3 [(0, .ref (r (0))), (1, .int (v1)), (2, .int (v2))] := hl
  by_cases hS : ¬ f_X11_hasBegun v1 M = 0
  · obtain ⟨q1, eq1⟩ : ∃ zz, zz = (v1).toNatClampNeg := ⟨_, rfl⟩
    obtain ⟨hvq1, hbq1⟩ : v1 = nI q1 ∧ q1 < 4 := by rw [eq1]; exact (g_hasBegun hS).1
    rw [hvq1] at hl
    have hTq1 : ¬ f_X11_hasBegun (nI q1) M = 0 := by rw [← hvq1]; exact hS
    refine lv_aload_n C.1 C.2.1 dX11_state_0 rfl (lv_at hl 0 rfl) ?_
    refine lv_iload_n C.1 C.2.1 dX11_state_1 rfl (lv_at hl 1 rfl) ?_
    refine m_cvi C w hl cvX11_152 (k := 0) (by decide) rfl (q := (RX11, TX11, 7)) rfl rfl (As := [.int (nI (q1))]) (rest := []) (c_X11_hasBegun l D b0 r M (nI (q1)) ) rfl rfl (Nat.le_of_ble_eq_true rfl) ⟨Nat.le_of_ble_eq_true rfl, Nat.le_of_ble_eq_true rfl⟩ ⟨Nat.zero_le _, Nat.zero_le _⟩ dX11_state_2 (fun v_1 M9 H locs e9 w => ?_)
    obtain ⟨ev_1, e9⟩ := e9
    rw [e9] at w
    subst ev_1
    refine lv_if_eq (tgt := 21) C.1 C.2.1 dX11_state_5 (by decide) (fun h_2 => absurd h_2 hTq1) (fun _ => ?_)
    refine lv_aload_n C.1 C.2.1 dX11_state_8 rfl (lv_at hl 0 rfl) ?_
    refine m_get C w (k := 0) (j := 6) (v := .ref (r (42))) flX11_37 (by decide) rfl rfl dX11_state_9 ?_
    refine lv_iload_n C.1 C.2.1 dX11_state_12 rfl (lv_at hl 1 rfl) ?_
    refine m_aald C w (k := 42) (i := q1) (n := 4) (wr := true) (q := 49 + 17 * q1) (by decide) rfl rfl (by omega) (by decide) (mm_ses_ds q1 (by omega)) dX11_state_13 ?_
    refine lv_iload_n C.1 C.2.1 dX11_state_14 rfl (lv_at hl 2 rfl) ?_
    refine m_cvi C w hl cvX11_182 (k := 49 + 17 * q1) (by have := (mm_ses_of q1 (by omega)).1; omega) (mm_ses_of q1 (by omega)).2.2.1 (q := (RX7, TX7, 12)) rfl rfl (As := [.int (v2)]) (rest := []) (c_X7_figure l D b0 r M (49 + 17 * q1) (v2) (mm_ses_of q1 (by omega))) rfl rfl (Nat.le_of_ble_eq_true rfl) ⟨Nat.le_of_ble_eq_true rfl, Nat.le_of_ble_eq_true rfl⟩ ⟨Nat.zero_le _, Nat.zero_le _⟩ dX11_state_15 (fun v_3 M9 H locs e9 w => ?_)
    obtain ⟨ev_3, e9⟩ := e9
    rw [e9] at w
    subst ev_3
    refine lv_goto (tgt := 22) C.1 C.2.1 dX11_state_18 (by decide) ?_
    exact m_iret C w ⟨by subst eq1; exact Eq.symm (((if_pos hS).trans rfl)), rfl⟩ dX11_state_22
  · refine lv_aload_n C.1 C.2.1 dX11_state_0 rfl (lv_at hl 0 rfl) ?_
    refine lv_iload_n C.1 C.2.1 dX11_state_1 rfl (lv_at hl 1 rfl) ?_
    refine m_cvi C w hl cvX11_152 (k := 0) (by decide) rfl (q := (RX11, TX11, 7)) rfl rfl (As := [.int (v1)]) (rest := []) (c_X11_hasBegun l D b0 r M (v1) ) rfl rfl (Nat.le_of_ble_eq_true rfl) ⟨Nat.le_of_ble_eq_true rfl, Nat.le_of_ble_eq_true rfl⟩ ⟨Nat.zero_le _, Nat.zero_le _⟩ dX11_state_2 (fun v_4 M9 H locs e9 w => ?_)
    obtain ⟨ev_4, e9⟩ := e9
    rw [e9] at w
    subst ev_4
    refine lv_if_eq (tgt := 21) C.1 C.2.1 dX11_state_5 (by decide) (fun _ => ?_) (fun h_5 => absurd h_5 (fun q => hS q))
    refine lv_iconst (v := (-1)) C.1 C.2.1 dX11_state_21 (by decide) ?_
    exact m_iret C w ⟨by exact Eq.symm (((if_neg hS).trans rfl)), rfl⟩ dX11_state_22

def f_X11_told (v1 : Int32) (v2 : Int32) (v3 : Int32) (M : mm_M) : Int32 :=
  if ¬ f_X11_hasBegun v1 M = 0 ∧ ¬ v3 < 0 ∧ v3 < 32 then (let q1 := (v1).toNatClampNeg
  let q3 := (v3).toNatClampNeg
  (f_X7_knownByte (49 + 17 * q1) (v2) q3 M)) else (if (f_X11_hasBegun (v1) M) = (0 : Int32) then ((-1 : Int32)) else (if (v3) < (0 : Int32) then ((-1 : Int32)) else ((-1 : Int32))))
set_option maxHeartbeats 4000000 in
set_option maxRecDepth 100000 in
theorem c_X11_told (l : Launch) (D : va_G) (b0 : Nat) (r : Nat → Nat) (M : mm_M) (v1 : Int32) (v2 : Int32) (v3 : Int32)  : mm_Mi l yX11_told cX11_told 4 .int 2 42 D b0 r [.ref (r (0)), .int (v1), .int (v2), .int (v3)] M (fun v M' => v = f_X11_told v1 v2 v3 M ∧ M' = M) := by
  refine mm_enter (cc := cX11_told) (nL := 4) (ret := (some .int)) (by decide) (Nat.le_of_ble_eq_true rfl) ?_
  intro p e s m args below meth c C w ls hl
  have hl : lv_has ls 4 [(0, .ref (r (0))), (1, .int (v1)), (2, .int (v2)), (3, .int (v3))] := hl
  by_cases hS : ¬ f_X11_hasBegun v1 M = 0 ∧ ¬ v3 < 0 ∧ v3 < 32
  · obtain ⟨q1, eq1⟩ : ∃ zz, zz = (v1).toNatClampNeg := ⟨_, rfl⟩
    obtain ⟨hvq1, hbq1⟩ : v1 = nI q1 ∧ q1 < 4 := by rw [eq1]; exact (g_hasBegun hS.1).1
    rw [hvq1] at hl
    obtain ⟨q3, eq3⟩ : ∃ zz, zz = (v3).toNatClampNeg := ⟨_, rfl⟩
    obtain ⟨hvq3, hbq3⟩ : v3 = nI q3 ∧ q3 < 32 := by rw [eq3]; exact mm_nat (by decide) hS.2.1 (Int32.not_le.mpr hS.2.2)
    rw [hvq3] at hl
    have hTq1 : ¬ f_X11_hasBegun (nI q1) M = 0 := by rw [← hvq1]; exact hS.1
    refine lv_aload_n C.1 C.2.1 dX11_told_0 rfl (lv_at hl 0 rfl) ?_
    refine lv_iload_n C.1 C.2.1 dX11_told_1 rfl (lv_at hl 1 rfl) ?_
    refine m_cvi C w hl cvX11_152 (k := 0) (by decide) rfl (q := (RX11, TX11, 7)) rfl rfl (As := [.int (nI (q1))]) (rest := []) (c_X11_hasBegun l D b0 r M (nI (q1)) ) rfl rfl (Nat.le_of_ble_eq_true rfl) ⟨Nat.le_of_ble_eq_true rfl, Nat.le_of_ble_eq_true rfl⟩ ⟨Nat.zero_le _, Nat.zero_le _⟩ dX11_told_2 (fun v_1 M9 H locs e9 w => ?_)
    obtain ⟨ev_1, e9⟩ := e9
    rw [e9] at w
    subst ev_1
    refine lv_if_eq (tgt := 18) C.1 C.2.1 dX11_told_5 (by decide) (fun h_2 => absurd h_2 hTq1) (fun _ => ?_)
    refine lv_iload_n C.1 C.2.1 dX11_told_8 rfl (lv_at hl 3 rfl) ?_
    refine lv_if_lt (tgt := 18) C.1 C.2.1 dX11_told_9 (by decide) (fun h_3 => absurd h_3 (nI_pos (by omega))) (fun _ => ?_)
    refine lv_iload_n C.1 C.2.1 dX11_told_12 rfl (lv_at hl 3 rfl) ?_
    refine lv_bipush (v := 32) C.1 C.2.1 dX11_told_13 (by decide) ?_
    refine m_icmp_lt (tgt := 20) (a := q3) (b := 32) C (by omega) (by omega) dX11_told_15 (by decide) (fun _ => ?_) (fun h_4 => absurd h_4 (by omega))
    refine lv_aload_n C.1 C.2.1 dX11_told_20 rfl (lv_at hl 0 rfl) ?_
    refine m_get C w (k := 0) (j := 6) (v := .ref (r (42))) flX11_37 (by decide) rfl rfl dX11_told_21 ?_
    refine lv_iload_n C.1 C.2.1 dX11_told_24 rfl (lv_at hl 1 rfl) ?_
    refine m_aald C w (k := 42) (i := q1) (n := 4) (wr := true) (q := 49 + 17 * q1) (by decide) rfl rfl (by omega) (by decide) (mm_ses_ds q1 (by omega)) dX11_told_25 ?_
    refine lv_iload_n C.1 C.2.1 dX11_told_26 rfl (lv_at hl 2 rfl) ?_
    refine lv_iload_n C.1 C.2.1 dX11_told_27 rfl (lv_at hl 3 rfl) ?_
    refine m_cvi C w hl cvX11_185 (k := 49 + 17 * q1) (by have := (mm_ses_of q1 (by omega)).1; omega) (mm_ses_of q1 (by omega)).2.2.1 (q := (RX7, TX7, 12)) rfl rfl (As := [.int (v2), .int (nI (q3))]) (rest := []) (c_X7_knownByte l D b0 r M (49 + 17 * q1) (v2) q3 (mm_ses_of q1 (by omega)) (by omega)) rfl rfl (Nat.le_of_ble_eq_true rfl) ⟨Nat.le_of_ble_eq_true rfl, Nat.le_of_ble_eq_true rfl⟩ ⟨Nat.zero_le _, Nat.zero_le _⟩ dX11_told_28 (fun v_5 M9 H locs e9 w => ?_)
    obtain ⟨ev_5, e9⟩ := e9
    rw [e9] at w
    subst ev_5
    exact m_iret C w ⟨by subst eq1 eq3; exact Eq.symm (((if_pos hS).trans rfl)), rfl⟩ dX11_told_31
  · refine lv_aload_n C.1 C.2.1 dX11_told_0 rfl (lv_at hl 0 rfl) ?_
    refine lv_iload_n C.1 C.2.1 dX11_told_1 rfl (lv_at hl 1 rfl) ?_
    refine m_cvi C w hl cvX11_152 (k := 0) (by decide) rfl (q := (RX11, TX11, 7)) rfl rfl (As := [.int (v1)]) (rest := []) (c_X11_hasBegun l D b0 r M (v1) ) rfl rfl (Nat.le_of_ble_eq_true rfl) ⟨Nat.le_of_ble_eq_true rfl, Nat.le_of_ble_eq_true rfl⟩ ⟨Nat.zero_le _, Nat.zero_le _⟩ dX11_told_2 (fun v_6 M9 H locs e9 w => ?_)
    obtain ⟨ev_6, e9⟩ := e9
    rw [e9] at w
    subst ev_6
    refine lv_if_eq (tgt := 18) C.1 C.2.1 dX11_told_5 (by decide) (fun h_7 => ?_) (fun h_7 => ?_)
    · refine lv_iconst (v := (-1)) C.1 C.2.1 dX11_told_18 (by decide) ?_
      exact m_iret C w ⟨by exact Eq.symm (((if_neg hS).trans ((if_pos h_7).trans rfl))), rfl⟩ dX11_told_19
    · refine lv_iload_n C.1 C.2.1 dX11_told_8 rfl (lv_at hl 3 rfl) ?_
      refine lv_if_lt (tgt := 18) C.1 C.2.1 dX11_told_9 (by decide) (fun h_8 => ?_) (fun h_8 => ?_)
      · refine lv_iconst (v := (-1)) C.1 C.2.1 dX11_told_18 (by decide) ?_
        exact m_iret C w ⟨by exact Eq.symm (((if_neg hS).trans ((if_neg h_7).trans ((if_pos h_8).trans rfl)))), rfl⟩ dX11_told_19
      · refine lv_iload_n C.1 C.2.1 dX11_told_12 rfl (lv_at hl 3 rfl) ?_
        refine lv_bipush (v := 32) C.1 C.2.1 dX11_told_13 (by decide) ?_
        refine lv_icmp_lt (tgt := 20) C.1 C.2.1 dX11_told_15 (by decide) (fun h_9 => absurd h_9 (fun q => hS ⟨h_7, h_8, q⟩)) (fun _ => ?_)
        refine lv_iconst (v := (-1)) C.1 C.2.1 dX11_told_18 (by decide) ?_
        exact m_iret C w ⟨by exact Eq.symm (((if_neg hS).trans ((if_neg h_7).trans ((if_neg h_8).trans rfl)))), rfl⟩ dX11_told_19

def f_X11_out (v1 : Int32) (rs : Nat) (M : mm_M) : Int32 :=
  if ¬ v1 < 0 ∧ ¬ nI rs ≤ v1 then (let q1 := (v1).toNatClampNeg
  ((M.1 2 q1) &&& (255 : Int32))) else (if (v1) < (0 : Int32) then ((-1 : Int32)) else ((-1 : Int32)))
set_option maxHeartbeats 4000000 in
set_option maxRecDepth 100000 in
theorem c_X11_out (l : Launch) (D : va_G) (b0 : Nat) (r : Nat → Nat) (M : mm_M) (v1 : Int32) (rs : Nat) (hrs : rs ≤ 1000) (h3 : M.1 0 3 = nI rs) : mm_Mi l yX11_out cX11_out 2 .int 0 0 D b0 r [.ref (r (0)), .int (v1)] M (fun v M' => v = f_X11_out v1 rs M ∧ M' = M) := by
  refine mm_enter (cc := cX11_out) (nL := 2) (ret := (some .int)) (by decide) (Nat.le_of_ble_eq_true rfl) ?_
  intro p e s m args below meth c C w ls hl
  have hl : lv_has ls 2 [(0, .ref (r (0))), (1, .int (v1))] := hl
  by_cases hS : ¬ v1 < 0 ∧ ¬ nI rs ≤ v1
  · obtain ⟨q1, eq1⟩ : ∃ zz, zz = (v1).toNatClampNeg := ⟨_, rfl⟩
    obtain ⟨hvq1, hbq1⟩ : v1 = nI q1 ∧ q1 < rs := by rw [eq1]; exact mm_nat (by omega) hS.1 hS.2
    rw [hvq1] at hl
    refine lv_iload_n C.1 C.2.1 dX11_out_0 rfl (lv_at hl 1 rfl) ?_
    refine lv_if_lt (tgt := 25) C.1 C.2.1 dX11_out_1 (by decide) (fun h_1 => absurd h_1 (nI_pos (by omega))) (fun _ => ?_)
    refine lv_iload_n C.1 C.2.1 dX11_out_4 rfl (lv_at hl 1 rfl) ?_
    refine lv_aload_n C.1 C.2.1 dX11_out_5 rfl (lv_at hl 0 rfl) ?_
    refine m_get C w (k := 0) (j := 3) (v := .int (M.1 0 3)) flX11_20 (by decide) rfl rfl dX11_out_6 ?_
    refine m_i (y := nI (rs)) h3 ?_
    refine m_icmp_ge (tgt := 25) (a := q1) (b := rs) C (by omega) (by omega) dX11_out_9 (by decide) (fun h_2 => absurd h_2 (by omega)) (fun _ => ?_)
    refine lv_aload_n C.1 C.2.1 dX11_out_12 rfl (lv_at hl 0 rfl) ?_
    refine m_get C w (k := 0) (j := 2) (v := .ref (r (2))) flX11_17 (by decide) rfl rfl dX11_out_13 ?_
    refine lv_iload_n C.1 C.2.1 dX11_out_16 rfl (lv_at hl 1 rfl) ?_
    refine m_bald C w (k := 2) (i := q1) (n := 1000) (wr := true) (by decide) rfl (by omega) (by decide) dX11_out_17 ?_
    refine lv_sipush (v := 255) C.1 C.2.1 dX11_out_18 (by decide) ?_
    refine lv_iand C.1 C.2.1 dX11_out_21 ?_
    refine lv_goto (tgt := 26) C.1 C.2.1 dX11_out_22 (by decide) ?_
    exact m_iret C w ⟨by subst eq1; exact Eq.symm (((if_pos hS).trans rfl)), rfl⟩ dX11_out_26
  · refine lv_iload_n C.1 C.2.1 dX11_out_0 rfl (lv_at hl 1 rfl) ?_
    refine lv_if_lt (tgt := 25) C.1 C.2.1 dX11_out_1 (by decide) (fun h_3 => ?_) (fun h_3 => ?_)
    · refine lv_iconst (v := (-1)) C.1 C.2.1 dX11_out_25 (by decide) ?_
      exact m_iret C w ⟨by exact Eq.symm (((if_neg hS).trans ((if_pos h_3).trans rfl))), rfl⟩ dX11_out_26
    · refine lv_iload_n C.1 C.2.1 dX11_out_4 rfl (lv_at hl 1 rfl) ?_
      refine lv_aload_n C.1 C.2.1 dX11_out_5 rfl (lv_at hl 0 rfl) ?_
      refine m_get C w (k := 0) (j := 3) (v := .int (M.1 0 3)) flX11_20 (by decide) rfl rfl dX11_out_6 ?_
      refine m_i (y := nI (rs)) h3 ?_
      refine lv_icmp_ge (tgt := 25) C.1 C.2.1 dX11_out_9 (by decide) (fun _ => ?_) (fun h_4 => absurd h_4 (fun q => hS ⟨h_3, q⟩))
      refine lv_iconst (v := (-1)) C.1 C.2.1 dX11_out_25 (by decide) ?_
      exact m_iret C w ⟨by exact Eq.symm (((if_neg hS).trans ((if_neg h_3).trans rfl))), rfl⟩ dX11_out_26

def f_X11_count (v1 : Int32) (M : mm_M) : Int32 :=
  if (v1) = (0 : Int32) then ((M.1 0 1)) else (if (v1) = (1 : Int32) then ((M.1 0 3)) else ((-1 : Int32)))
set_option maxHeartbeats 4000000 in
set_option maxRecDepth 100000 in
theorem c_X11_count (l : Launch) (D : va_G) (b0 : Nat) (r : Nat → Nat) (M : mm_M) (v1 : Int32)  : mm_Mi l yX11_count cX11_count 2 .int 0 0 D b0 r [.ref (r (0)), .int (v1)] M (fun v M' => v = f_X11_count v1 M ∧ M' = M) := by
  refine mm_enter (cc := cX11_count) (nL := 2) (ret := (some .int)) (by decide) (Nat.le_of_ble_eq_true rfl) ?_
  intro p e s m args below meth c C w ls hl
  have hl : lv_has ls 2 [(0, .ref (r (0))), (1, .int (v1))] := hl
  refine lv_iload_n C.1 C.2.1 dX11_count_0 rfl (lv_at hl 1 rfl) ?_
  by_cases h_1 : (v1) = 0
  · refine lv_lookup (off := 27) (tgt := 28) C.1 C.2.1 dX11_count_1 (by decide) (by rw [h_1]; rfl) (by decide) ?_
    refine lv_aload_n C.1 C.2.1 dX11_count_28 rfl (lv_at hl 0 rfl) ?_
    refine m_get C w (k := 0) (j := 1) (v := .int (M.1 0 1)) flX11_13 (by decide) rfl rfl dX11_count_29 ?_
    exact m_iret C w ⟨by exact Eq.symm (((if_pos h_1).trans rfl)), rfl⟩ dX11_count_32
  · by_cases h_2 : (v1) = 1
    · refine lv_lookup (off := 32) (tgt := 33) C.1 C.2.1 dX11_count_1 (by decide) (by rw [h_2]; rfl) (by decide) ?_
      refine lv_aload_n C.1 C.2.1 dX11_count_33 rfl (lv_at hl 0 rfl) ?_
      refine m_get C w (k := 0) (j := 3) (v := .int (M.1 0 3)) flX11_20 (by decide) rfl rfl dX11_count_34 ?_
      exact m_iret C w ⟨by exact Eq.symm (((if_neg h_1).trans ((if_pos h_2).trans rfl))), rfl⟩ dX11_count_37
    · refine lv_lookup (off := 37) (tgt := 38) C.1 C.2.1 dX11_count_1 (by decide) ((lv_osw (a := 0) (o := 27) h_1 rfl).trans ((lv_osw (a := 1) (o := 32) h_2 rfl).trans rfl)) (by decide) ?_
      refine lv_iconst (v := (-1)) C.1 C.2.1 dX11_count_38 (by decide) ?_
      exact m_iret C w ⟨by exact Eq.symm (((if_neg h_1).trans ((if_neg h_2).trans rfl))), rfl⟩ dX11_count_39
