theorem mm_some {P : Nat → Prop} [DecidablePred P] {n : Nat} (h : ¬ ∀ t, t < n → P t) : ∃ j, 0 ≤ j ∧ j < n ∧ ¬ P j := by
  apply Classical.byContradiction
  intro q
  apply h
  intro t ht
  apply Classical.byContradiction
  intro z
  exact q ⟨t, Nat.zero_le _, ht, z⟩

def f_X12_mixes_B1 (k1 : Nat) (p1 : Nat) (u1 : Int64) (k2 : Nat) (p2 : Nat) (k3 : Nat) (p4 : Nat) (t : Nat) (M_3 : mm_M) : mm_M :=
  if ¬ (t % 64) = 0 then (let M_6 := mm_w M_3 k3 (p4 + t) (mm_b ((M_3.1 k2 (p2 + t)) ^^^ (M_3.1 149 (t % 64))))
  M_6) else (let M_7 := f_X12_streamed k1 p1 (nI (1 + (t / 64))) (u1) M_3
  let M_8 := mm_w M_7 k3 (p4 + t) (mm_b ((M_7.1 k2 (p2 + t)) ^^^ (M_7.1 149 (t % 64))))
  M_8)
theorem w_f_X12_mixes_B1 (k1 : Nat) (p1 : Nat) (u1 : Int64) (k2 : Nat) (p2 : Nat) (k3 : Nat) (p4 : Nat) (t : Nat) (M_3 : mm_M) : mm_fr [k3, 147, 149, 148] M_3 (f_X12_mixes_B1 k1 p1 u1 k2 p2 k3 p4 t M_3) := by
  unfold f_X12_mixes_B1
  exact (mm_fr_ite (fun _ => (mm_fr_w (by simp) (mm_fr_refl _ _))) (fun _ => (mm_fr_w (by simp) ((w_f_X12_streamed _ _ _ _ _).on (by simp) (mm_fr_refl _ _)))))
def f_X12_mixes_L3 (k1 : Nat) (p1 : Nat) (u1 : Int64) (k2 : Nat) (p2 : Nat) (k3 : Nat) (p4 : Nat) (σ : mm_M) : Nat → mm_M
  | 0 => σ
  | t + 1 =>
  let M_3 := f_X12_mixes_L3 k1 p1 u1 k2 p2 k3 p4 σ t
  f_X12_mixes_B1 k1 p1 u1 k2 p2 k3 p4 t M_3
theorem w_f_X12_mixes_L3 (k1 : Nat) (p1 : Nat) (u1 : Int64) (k2 : Nat) (p2 : Nat) (k3 : Nat) (p4 : Nat) (σ : mm_M) : ∀ t : Nat, mm_fr [k3, 147, 149, 148] σ (f_X12_mixes_L3 k1 p1 u1 k2 p2 k3 p4 σ t)
  | 0 => mm_fr_refl _ _
  | t + 1 => have ih := w_f_X12_mixes_L3 k1 p1 u1 k2 p2 k3 p4 σ t
    ((w_f_X12_mixes_B1 _ _ _ _ _ _ _ _ _).on (by simp) ih)
def f_X12_mixes (k1 : Nat) (p1 : Nat) (u1 : Int64) (k2 : Nat) (p2 : Nat) (p3 : Nat) (k3 : Nat) (p4 : Nat) (M : mm_M) : mm_M :=
  let M_1 := f_X12_mixes_L3 k1 p1 u1 k2 p2 k3 p4 M p3
  M_1
theorem w_f_X12_mixes (k1 : Nat) (p1 : Nat) (u1 : Int64) (k2 : Nat) (p2 : Nat) (p3 : Nat) (k3 : Nat) (p4 : Nat) (M : mm_M) : mm_fr [k3, 147, 149, 148] M (f_X12_mixes k1 p1 u1 k2 p2 p3 k3 p4 M) := by
  unfold f_X12_mixes
  exact ((w_f_X12_mixes_L3 _ _ _ _ _ _ _ _ p3).on (by simp) (mm_fr_refl _ _))
set_option maxHeartbeats 4000000 in
set_option maxRecDepth 100000 in
theorem c_X12_mixes (l : Launch) (D : va_G) (b0 : Nat) (r : Nat → Nat) (M : mm_M) (k1 : Nat) (p1 : Nat) (u1 : Int64) (k2 : Nat) (p2 : Nat) (p3 : Nat) (k3 : Nat) (p4 : Nat) {n1 : Nat} {w1 : Bool} (hk1 : k1 < 181) (hs1 : mm_sh k1 = .inl (.byte, n1, w1)) (hn1 : n1 < 2 ^ 31) (hp1 : p1 + 32 ≤ n1) (hq1 : n1 < 2 ^ 30) {n2 : Nat} {w2 : Bool} (hk2 : k2 < 181) (hs2 : mm_sh k2 = .inl (.byte, n2, w2)) (hn2 : n2 < 2 ^ 31) (hp2 : p2 + p3 ≤ n2) (hq2 : n2 < 2 ^ 30) {n3 : Nat} (hk3 : k3 < 173) (hs3 : mm_sh k3 = .inl (.byte, n3, true)) (hn3 : n3 < 2 ^ 31) (hp3 : p4 + p3 ≤ n3) (hq3 : n3 < 2 ^ 30) : mm_Mv l yX12_mixes cX12_mixes 11 3 72 D b0 r [.ref (r (117)), .ref (r (k1)), .int (nI (p1)), .long (u1), .ref (r (k2)), .int (nI (p2)), .int (nI (p3)), .ref (r (k3)), .int (nI (p4))] M (fun M' => M' = f_X12_mixes k1 p1 u1 k2 p2 p3 k3 p4 M) := by
  refine mm_enter (cc := cX12_mixes) (nL := 11) (ret := none) (by decide) (Nat.le_of_ble_eq_true rfl) ?_
  intro p e s m args below meth c C w ls hl
  have hl : lv_has ls 11 [(0, .ref (r (117))), (1, .ref (r (k1))), (2, .int (nI (p1))), (3, .long (u1)), (5, .ref (r (k2))), (6, .int (nI (p2))), (7, .int (nI (p3))), (8, .ref (r (k3))), (9, .int (nI (p4)))] := hl
  refine lv_iconst (v := 0) C.1 C.2.1 dX12_mixes_0 (by decide) ?_
  refine lv_istore (lv' := [(10, .int 0), (0, .ref (r (117))), (1, .ref (r (k1))), (2, .int (nI (p1))), (3, .long (u1)), (5, .ref (r (k2))), (6, .int (nI (p2))), (7, .int (nI (p3))), (8, .ref (r (k3))), (9, .int (nI (p4)))]) C.1 C.2.1 dX12_mixes_1 hl (by decide) rfl (fun ls hl => ?_)
  have loop : ∀ (k t : Nat), t + k = p3 → ∀ (H : Heap) (locs : List Loc) (ls : Array Slot), mm_W D b0 r (f_X12_mixes_L3 k1 p1 u1 k2 p2 k3 p4 M t) s H locs → lv_has ls 11 [(10, .int (nI (t))), (0, .ref (r (117))), (1, .ref (r (k1))), (2, .int (nI (p1))), (3, .long (u1)), (5, .ref (r (k2))), (6, .int (nI (p2))), (7, .int (nI (p3))), (8, .ref (r (k3))), (9, .int (nI (p4)))] → W p l e (mm_rm 3 72) s m args below meth c H locs 0 0 (MQ below (va_Qv (fun M' => M' = f_X12_mixes k1 p1 u1 k2 p2 p3 k3 p4 M) (mm_U D b0 r) (fun q => b0 ≤ q)) args s 0 0 (fun q => b0 ≤ q)) (F0 m 3 ls []) := by
    intro k
    induction k with
    | zero =>
      intro t ht H locs ls w hl
      obtain rfl : p3 = t := by omega
      obtain ⟨M_1, eM_1⟩ : ∃ zz, zz = f_X12_mixes_L3 k1 p1 u1 k2 p2 k3 p4 M p3 := ⟨_, rfl⟩
      rw [← eM_1] at w
      refine lv_iload C.1 C.2.1 dX12_mixes_3 (lv_at hl 0 rfl) ?_
      refine lv_iload C.1 C.2.1 dX12_mixes_5 (lv_at hl 7 rfl) ?_
      refine m_icmp_ge (tgt := 66) (a := p3) (b := p3) C (by omega) (by omega) dX12_mixes_7 (by decide) (fun _ => ?_) (fun h_2 => absurd h_2 (by omega))
      exact m_vret C w (by subst eM_1; exact Eq.symm (rfl)) dX12_mixes_66
    | succ k ih =>
      intro t ht H locs ls w hl
      obtain ⟨M_3, eM_3⟩ : ∃ zz, zz = f_X12_mixes_L3 k1 p1 u1 k2 p2 k3 p4 M t := ⟨_, rfl⟩
      rw [← eM_3] at w
      refine lv_iload C.1 C.2.1 dX12_mixes_3 (lv_at hl 0 rfl) ?_
      refine lv_iload C.1 C.2.1 dX12_mixes_5 (lv_at hl 7 rfl) ?_
      refine m_icmp_ge (tgt := 66) (a := t) (b := p3) C (by omega) (by omega) dX12_mixes_7 (by decide) (fun h_4 => absurd h_4 (by omega)) (fun _ => ?_)
      refine lv_iload C.1 C.2.1 dX12_mixes_10 (lv_at hl 0 rfl) ?_
      refine lv_bipush (v := 64) C.1 C.2.1 dX12_mixes_12 (by decide) ?_
      refine lv_irem C.1 C.2.1 dX12_mixes_14 (by decide) ?_
      refine m_i (y := nI (t % 64)) (pk_rem (a := t) (d := 64) (by omega) (by omega) (by omega)) ?_
      refine m_if_ne (tgt := 32) (a := t % 64) C (by omega) dX12_mixes_15 (by decide) (fun h_5 => ?_) (fun h_5 => ?_)
      · refine lv_aload C.1 C.2.1 dX12_mixes_32 (lv_at hl 8 rfl) ?_
        refine lv_iload C.1 C.2.1 dX12_mixes_34 (lv_at hl 9 rfl) ?_
        refine lv_iload C.1 C.2.1 dX12_mixes_36 (lv_at hl 0 rfl) ?_
        refine lv_iadd C.1 C.2.1 dX12_mixes_38 ?_
        refine m_i (y := nI (p4 + t)) (nI_add p4 t) ?_
        refine lv_aload C.1 C.2.1 dX12_mixes_39 (lv_at hl 5 rfl) ?_
        refine lv_iload C.1 C.2.1 dX12_mixes_41 (lv_at hl 6 rfl) ?_
        refine lv_iload C.1 C.2.1 dX12_mixes_43 (lv_at hl 0 rfl) ?_
        refine lv_iadd C.1 C.2.1 dX12_mixes_45 ?_
        refine m_i (y := nI (p2 + t)) (nI_add p2 t) ?_
        refine m_bald C w (k := k2) (i := p2 + t) (n := n2) (wr := w2) hk2 hs2 (by omega) hn2 dX12_mixes_46 ?_
        refine lv_aload_n C.1 C.2.1 dX12_mixes_47 rfl (lv_at hl 1 rfl) ?_
        refine m_get C w (k := 117) (j := 34) (v := .ref (r (149))) flX12_177 (by decide) rfl rfl dX12_mixes_48 ?_
        refine lv_iload C.1 C.2.1 dX12_mixes_51 (lv_at hl 0 rfl) ?_
        refine lv_bipush (v := 64) C.1 C.2.1 dX12_mixes_53 (by decide) ?_
        refine lv_irem C.1 C.2.1 dX12_mixes_55 (by decide) ?_
        refine m_i (y := nI (t % 64)) (pk_rem (a := t) (d := 64) (by omega) (by omega) (by omega)) ?_
        refine m_bald C w (k := 149) (i := t % 64) (n := 64) (wr := true) (by decide) rfl (by omega) (by decide) dX12_mixes_56 ?_
        refine lv_ixor C.1 C.2.1 dX12_mixes_57 ?_
        refine lv_i2b (v := mm_b ((M_3.1 k2 (p2 + t)) ^^^ (M_3.1 149 (t % 64)))) C.1 C.2.1 dX12_mixes_58 rfl ?_
        refine m_bast C w (k := k3) (i := p4 + t) (n := n3) (x := (mm_b ((M_3.1 k2 (p2 + t)) ^^^ (M_3.1 149 (t % 64))))) hk3 hs3 (by omega) hn3 (mm_bb _) dX12_mixes_59 (fun H locs w => ?_)
        obtain ⟨M_6, eM_6⟩ : ∃ zz, zz = mm_w M_3 k3 (p4 + t) (mm_b ((M_3.1 k2 (p2 + t)) ^^^ (M_3.1 149 (t % 64)))) := ⟨_, rfl⟩
        rw [← eM_6] at w
        refine lv_iinc (v := (nI (t + 1))) (lv' := [(10, .int (nI (t + 1))), (0, .ref (r (117))), (1, .ref (r (k1))), (2, .int (nI (p1))), (3, .long (u1)), (5, .ref (r (k2))), (6, .int (nI (p2))), (7, .int (nI (p3))), (8, .ref (r (k3))), (9, .int (nI (p4)))]) C.1 C.2.1 dX12_mixes_60 hl (k := 0) rfl (nI_add t 1) (by decide) rfl (fun ls hl => ?_)
        refine lv_goto (tgt := 3) C.1 C.2.1 dX12_mixes_63 (by decide) ?_
        have h9 : lv_has ls 11 [(10, .int (nI (t + 1))), (0, .ref (r (117))), (1, .ref (r (k1))), (2, .int (nI (p1))), (3, .long (u1)), (5, .ref (r (k2))), (6, .int (nI (p2))), (7, .int (nI (p3))), (8, .ref (r (k3))), (9, .int (nI (p4)))] := lv_sub hl [0, 1, 2, 3, 4, 5, 6, 7, 8, 9] rfl
        have hlZ : lv_has ls 11 [(10, .int (nI (t + 1))), (0, .ref (r (117))), (1, .ref (r (k1))), (2, .int (nI (p1))), (3, .long (u1)), (5, .ref (r (k2))), (6, .int (nI (p2))), (7, .int (nI (p3))), (8, .ref (r (k3))), (9, .int (nI (p4)))] := h9
        have wZ := w
        subst eM_3 eM_6
        refine ih (t + 1) (by omega) _ _ _ (m_w (Eq.symm (congrArg (fun z => z) (show f_X12_mixes_L3 k1 p1 u1 k2 p2 k3 p4 M (t + 1) = _ from ((if_pos h_5).trans rfl)))) wZ) ?_
        exact hlZ
      · refine lv_aload_n C.1 C.2.1 dX12_mixes_18 rfl (lv_at hl 1 rfl) ?_
        refine lv_aload_n C.1 C.2.1 dX12_mixes_19 rfl (lv_at hl 2 rfl) ?_
        refine lv_iload_n C.1 C.2.1 dX12_mixes_20 rfl (lv_at hl 3 rfl) ?_
        refine lv_iconst (v := 1) C.1 C.2.1 dX12_mixes_21 (by decide) ?_
        refine lv_iload C.1 C.2.1 dX12_mixes_22 (lv_at hl 0 rfl) ?_
        refine lv_bipush (v := 64) C.1 C.2.1 dX12_mixes_24 (by decide) ?_
        refine lv_idiv C.1 C.2.1 dX12_mixes_26 (by decide) ?_
        refine m_i (y := nI (t / 64)) (pk_div (a := t) (d := 64) (by omega) (by omega) (by omega)) ?_
        refine lv_iadd C.1 C.2.1 dX12_mixes_27 ?_
        refine m_i (y := nI (1 + (t / 64))) (nI_add 1 (t / 64)) ?_
        refine lv_lload_n C.1 C.2.1 dX12_mixes_28 rfl (lv_at hl 4 rfl) ?_
        refine m_cvv C w hl cvX12_338 (k := 117) (by decide) rfl (q := (RX12, TX12, 58)) rfl rfl (As := [.ref (r (k1)), .int (nI (p1)), .int (nI (1 + (t / 64))), .long (u1)]) (rest := []) (c_X12_streamed l D b0 r M_3 k1 p1 (nI (1 + (t / 64))) (u1) hk1 hs1 hn1 (by omega) (by omega)) rfl rfl (Nat.le_of_ble_eq_true rfl) ⟨Nat.le_of_ble_eq_true rfl, Nat.le_of_ble_eq_true rfl⟩ ⟨Nat.zero_le _, Nat.zero_le _⟩ dX12_mixes_29 (fun M_7 H locs eM_7 w => ?_)
        refine lv_aload C.1 C.2.1 dX12_mixes_32 (lv_at hl 8 rfl) ?_
        refine lv_iload C.1 C.2.1 dX12_mixes_34 (lv_at hl 9 rfl) ?_
        refine lv_iload C.1 C.2.1 dX12_mixes_36 (lv_at hl 0 rfl) ?_
        refine lv_iadd C.1 C.2.1 dX12_mixes_38 ?_
        refine m_i (y := nI (p4 + t)) (nI_add p4 t) ?_
        refine lv_aload C.1 C.2.1 dX12_mixes_39 (lv_at hl 5 rfl) ?_
        refine lv_iload C.1 C.2.1 dX12_mixes_41 (lv_at hl 6 rfl) ?_
        refine lv_iload C.1 C.2.1 dX12_mixes_43 (lv_at hl 0 rfl) ?_
        refine lv_iadd C.1 C.2.1 dX12_mixes_45 ?_
        refine m_i (y := nI (p2 + t)) (nI_add p2 t) ?_
        refine m_bald C w (k := k2) (i := p2 + t) (n := n2) (wr := w2) hk2 hs2 (by omega) hn2 dX12_mixes_46 ?_
        refine lv_aload_n C.1 C.2.1 dX12_mixes_47 rfl (lv_at hl 1 rfl) ?_
        refine m_get C w (k := 117) (j := 34) (v := .ref (r (149))) flX12_177 (by decide) rfl rfl dX12_mixes_48 ?_
        refine lv_iload C.1 C.2.1 dX12_mixes_51 (lv_at hl 0 rfl) ?_
        refine lv_bipush (v := 64) C.1 C.2.1 dX12_mixes_53 (by decide) ?_
        refine lv_irem C.1 C.2.1 dX12_mixes_55 (by decide) ?_
        refine m_i (y := nI (t % 64)) (pk_rem (a := t) (d := 64) (by omega) (by omega) (by omega)) ?_
        refine m_bald C w (k := 149) (i := t % 64) (n := 64) (wr := true) (by decide) rfl (by omega) (by decide) dX12_mixes_56 ?_
        refine lv_ixor C.1 C.2.1 dX12_mixes_57 ?_
        refine lv_i2b (v := mm_b ((M_7.1 k2 (p2 + t)) ^^^ (M_7.1 149 (t % 64)))) C.1 C.2.1 dX12_mixes_58 rfl ?_
        refine m_bast C w (k := k3) (i := p4 + t) (n := n3) (x := (mm_b ((M_7.1 k2 (p2 + t)) ^^^ (M_7.1 149 (t % 64))))) hk3 hs3 (by omega) hn3 (mm_bb _) dX12_mixes_59 (fun H locs w => ?_)
        obtain ⟨M_8, eM_8⟩ : ∃ zz, zz = mm_w M_7 k3 (p4 + t) (mm_b ((M_7.1 k2 (p2 + t)) ^^^ (M_7.1 149 (t % 64)))) := ⟨_, rfl⟩
        rw [← eM_8] at w
        refine lv_iinc (v := (nI (t + 1))) (lv' := [(10, .int (nI (t + 1))), (0, .ref (r (117))), (1, .ref (r (k1))), (2, .int (nI (p1))), (3, .long (u1)), (5, .ref (r (k2))), (6, .int (nI (p2))), (7, .int (nI (p3))), (8, .ref (r (k3))), (9, .int (nI (p4)))]) C.1 C.2.1 dX12_mixes_60 hl (k := 0) rfl (nI_add t 1) (by decide) rfl (fun ls hl => ?_)
        refine lv_goto (tgt := 3) C.1 C.2.1 dX12_mixes_63 (by decide) ?_
        have h9 : lv_has ls 11 [(10, .int (nI (t + 1))), (0, .ref (r (117))), (1, .ref (r (k1))), (2, .int (nI (p1))), (3, .long (u1)), (5, .ref (r (k2))), (6, .int (nI (p2))), (7, .int (nI (p3))), (8, .ref (r (k3))), (9, .int (nI (p4)))] := lv_sub hl [0, 1, 2, 3, 4, 5, 6, 7, 8, 9] rfl
        have hlZ : lv_has ls 11 [(10, .int (nI (t + 1))), (0, .ref (r (117))), (1, .ref (r (k1))), (2, .int (nI (p1))), (3, .long (u1)), (5, .ref (r (k2))), (6, .int (nI (p2))), (7, .int (nI (p3))), (8, .ref (r (k3))), (9, .int (nI (p4)))] := h9
        have wZ := w
        subst eM_3 eM_7 eM_8
        refine ih (t + 1) (by omega) _ _ _ (m_w (Eq.symm (congrArg (fun z => z) (show f_X12_mixes_L3 k1 p1 u1 k2 p2 k3 p4 M (t + 1) = _ from ((if_neg (fun q => q h_5)).trans rfl)))) wZ) ?_
        exact hlZ
  exact loop p3 0 (by omega) _ _ ls w hl

def f_X12_seals (k1 : Nat) (p1 : Nat) (u1 : Int64) (k2 : Nat) (p2 : Nat) (p3 : Nat) (k3 : Nat) (p4 : Nat) (p5 : Nat) (k4 : Nat) (p6 : Nat) (M : mm_M) : mm_M :=
  let M_1 := f_X12_mixes k1 p1 (u1) k3 p4 p5 k4 p6 M
  let M_2 := f_X12_tagBegins k1 p1 (u1) M_1
  let M_3 := f_X12_tagRow k2 p2 p3 M_2
  let M_4 := f_X12_tagRow k4 p6 p5 M_3
  let M_5 := f_X12_tagEnds (nI (p3)) (nI (p5)) M_4
  let M_6 := f_X12_copy 156 0 k4 (p6 + p5) 16 M_5
  M_6
theorem w_f_X12_seals (k1 : Nat) (p1 : Nat) (u1 : Int64) (k2 : Nat) (p2 : Nat) (p3 : Nat) (k3 : Nat) (p4 : Nat) (p5 : Nat) (k4 : Nat) (p6 : Nat) (M : mm_M) : mm_fr [k4, 147, 149, 148, 155, 151, 150, 152, 153, 156, 154] M (f_X12_seals k1 p1 u1 k2 p2 p3 k3 p4 p5 k4 p6 M) := by
  unfold f_X12_seals
  exact ((w_f_X12_copy _ _ _ _ _ _).on (by simp) ((w_f_X12_tagEnds _ _ _).on (by simp) ((w_f_X12_tagRow _ _ _ _).on (by simp) ((w_f_X12_tagRow _ _ _ _).on (by simp) ((w_f_X12_tagBegins _ _ _ _).on (by simp) ((w_f_X12_mixes _ _ _ _ _ _ _ _ _).on (by simp) (mm_fr_refl _ _)))))))
set_option maxHeartbeats 4000000 in
set_option maxRecDepth 100000 in
theorem c_X12_seals (l : Launch) (D : va_G) (b0 : Nat) (r : Nat → Nat) (M : mm_M) (k1 : Nat) (p1 : Nat) (u1 : Int64) (k2 : Nat) (p2 : Nat) (p3 : Nat) (k3 : Nat) (p4 : Nat) (p5 : Nat) (k4 : Nat) (p6 : Nat) {n1 : Nat} {w1 : Bool} (hk1 : k1 < 181) (hs1 : mm_sh k1 = .inl (.byte, n1, w1)) (hn1 : n1 < 2 ^ 31) (hp1 : p1 + 32 ≤ n1) (hq1 : n1 < 2 ^ 30) {n2 : Nat} {w2 : Bool} (hk2 : k2 < 181) (hs2 : mm_sh k2 = .inl (.byte, n2, w2)) (hn2 : n2 < 2 ^ 31) (hp2 : p2 + p3 ≤ n2) (hq2 : n2 < 2 ^ 30) {n3 : Nat} {w3 : Bool} (hk3 : k3 < 181) (hs3 : mm_sh k3 = .inl (.byte, n3, w3)) (hn3 : n3 < 2 ^ 31) (hp3 : p4 + p5 ≤ n3) (hq3 : n3 < 2 ^ 30) {n4 : Nat} (hk4 : k4 < 173) (hs4 : mm_sh k4 = .inl (.byte, n4, true)) (hn4 : n4 < 2 ^ 31) (hp4 : p6 + p5 + 16 ≤ n4) (hq4 : n4 < 2 ^ 30) : mm_Mv l yX12_seals cX12_seals 13 4 102 D b0 r [.ref (r (117)), .ref (r (k1)), .int (nI (p1)), .long (u1), .ref (r (k2)), .int (nI (p2)), .int (nI (p3)), .ref (r (k3)), .int (nI (p4)), .int (nI (p5)), .ref (r (k4)), .int (nI (p6))] M (fun M' => M' = f_X12_seals k1 p1 u1 k2 p2 p3 k3 p4 p5 k4 p6 M) := by
  refine mm_enter (cc := cX12_seals) (nL := 13) (ret := none) (by decide) (Nat.le_of_ble_eq_true rfl) ?_
  intro p e s m args below meth c C w ls hl
  have hl : lv_has ls 13 [(0, .ref (r (117))), (1, .ref (r (k1))), (2, .int (nI (p1))), (3, .long (u1)), (5, .ref (r (k2))), (6, .int (nI (p2))), (7, .int (nI (p3))), (8, .ref (r (k3))), (9, .int (nI (p4))), (10, .int (nI (p5))), (11, .ref (r (k4))), (12, .int (nI (p6)))] := hl
  refine lv_aload_n C.1 C.2.1 dX12_seals_0 rfl (lv_at hl 0 rfl) ?_
  refine lv_aload_n C.1 C.2.1 dX12_seals_1 rfl (lv_at hl 1 rfl) ?_
  refine lv_iload_n C.1 C.2.1 dX12_seals_2 rfl (lv_at hl 2 rfl) ?_
  refine lv_lload_n C.1 C.2.1 dX12_seals_3 rfl (lv_at hl 3 rfl) ?_
  refine lv_aload C.1 C.2.1 dX12_seals_4 (lv_at hl 7 rfl) ?_
  refine lv_iload C.1 C.2.1 dX12_seals_6 (lv_at hl 8 rfl) ?_
  refine lv_iload C.1 C.2.1 dX12_seals_8 (lv_at hl 9 rfl) ?_
  refine lv_aload C.1 C.2.1 dX12_seals_10 (lv_at hl 10 rfl) ?_
  refine lv_iload C.1 C.2.1 dX12_seals_12 (lv_at hl 11 rfl) ?_
  refine m_cvv C w hl cvX12_349 (k := 117) (by decide) rfl (q := (RX12, TX12, 58)) rfl rfl (As := [.ref (r (k1)), .int (nI (p1)), .long (u1), .ref (r (k3)), .int (nI (p4)), .int (nI (p5)), .ref (r (k4)), .int (nI (p6))]) (rest := []) (c_X12_mixes l D b0 r M k1 p1 (u1) k3 p4 p5 k4 p6 hk1 hs1 hn1 (by omega) (by omega) hk3 hs3 hn3 (by omega) (by omega) hk4 hs4 hn4 (by omega) (by omega)) rfl rfl (Nat.le_of_ble_eq_true rfl) ⟨Nat.le_of_ble_eq_true rfl, Nat.le_of_ble_eq_true rfl⟩ ⟨Nat.zero_le _, Nat.zero_le _⟩ dX12_seals_14 (fun M_1 H locs eM_1 w => ?_)
  refine lv_aload_n C.1 C.2.1 dX12_seals_17 rfl (lv_at hl 0 rfl) ?_
  refine lv_aload_n C.1 C.2.1 dX12_seals_18 rfl (lv_at hl 1 rfl) ?_
  refine lv_iload_n C.1 C.2.1 dX12_seals_19 rfl (lv_at hl 2 rfl) ?_
  refine lv_lload_n C.1 C.2.1 dX12_seals_20 rfl (lv_at hl 3 rfl) ?_
  refine m_cvv C w hl cvX12_353 (k := 117) (by decide) rfl (q := (RX12, TX12, 58)) rfl rfl (As := [.ref (r (k1)), .int (nI (p1)), .long (u1)]) (rest := []) (c_X12_tagBegins l D b0 r M_1 k1 p1 (u1) hk1 hs1 hn1 (by omega) (by omega)) rfl rfl (Nat.le_of_ble_eq_true rfl) ⟨Nat.le_of_ble_eq_true rfl, Nat.le_of_ble_eq_true rfl⟩ ⟨Nat.zero_le _, Nat.zero_le _⟩ dX12_seals_21 (fun M_2 H locs eM_2 w => ?_)
  refine lv_aload_n C.1 C.2.1 dX12_seals_24 rfl (lv_at hl 0 rfl) ?_
  refine lv_aload C.1 C.2.1 dX12_seals_25 (lv_at hl 4 rfl) ?_
  refine lv_iload C.1 C.2.1 dX12_seals_27 (lv_at hl 5 rfl) ?_
  refine lv_iload C.1 C.2.1 dX12_seals_29 (lv_at hl 6 rfl) ?_
  refine m_cvv C w hl cvX12_357 (k := 117) (by decide) rfl (q := (RX12, TX12, 58)) rfl rfl (As := [.ref (r (k2)), .int (nI (p2)), .int (nI (p3))]) (rest := []) (c_X12_tagRow l D b0 r M_2 k2 p2 p3 hk2 hs2 hn2 (by omega) (by omega)) rfl rfl (Nat.le_of_ble_eq_true rfl) ⟨Nat.le_of_ble_eq_true rfl, Nat.le_of_ble_eq_true rfl⟩ ⟨Nat.zero_le _, Nat.zero_le _⟩ dX12_seals_31 (fun M_3 H locs eM_3 w => ?_)
  refine lv_aload_n C.1 C.2.1 dX12_seals_34 rfl (lv_at hl 0 rfl) ?_
  refine lv_aload C.1 C.2.1 dX12_seals_35 (lv_at hl 10 rfl) ?_
  refine lv_iload C.1 C.2.1 dX12_seals_37 (lv_at hl 11 rfl) ?_
  refine lv_iload C.1 C.2.1 dX12_seals_39 (lv_at hl 9 rfl) ?_
  refine m_cvv C w hl cvX12_357 (k := 117) (by decide) rfl (q := (RX12, TX12, 58)) rfl rfl (As := [.ref (r (k4)), .int (nI (p6)), .int (nI (p5))]) (rest := []) (c_X12_tagRow l D b0 r M_3 k4 p6 p5 (Nat.lt_trans hk4 (by decide)) hs4 hn4 (by omega) (by omega)) rfl rfl (Nat.le_of_ble_eq_true rfl) ⟨Nat.le_of_ble_eq_true rfl, Nat.le_of_ble_eq_true rfl⟩ ⟨Nat.zero_le _, Nat.zero_le _⟩ dX12_seals_41 (fun M_4 H locs eM_4 w => ?_)
  refine lv_aload_n C.1 C.2.1 dX12_seals_44 rfl (lv_at hl 0 rfl) ?_
  refine lv_iload C.1 C.2.1 dX12_seals_45 (lv_at hl 6 rfl) ?_
  refine lv_iload C.1 C.2.1 dX12_seals_47 (lv_at hl 9 rfl) ?_
  refine m_cvv C w hl cvX12_360 (k := 117) (by decide) rfl (q := (RX12, TX12, 58)) rfl rfl (As := [.int (nI (p3)), .int (nI (p5))]) (rest := []) (c_X12_tagEnds l D b0 r M_4 (nI (p3)) (nI (p5)) ) rfl rfl (Nat.le_of_ble_eq_true rfl) ⟨Nat.le_of_ble_eq_true rfl, Nat.le_of_ble_eq_true rfl⟩ ⟨Nat.zero_le _, Nat.zero_le _⟩ dX12_seals_49 (fun M_5 H locs eM_5 w => ?_)
  refine lv_aload_n C.1 C.2.1 dX12_seals_52 rfl (lv_at hl 0 rfl) ?_
  refine m_get C w (k := 117) (j := 41) (v := .ref (r (156))) flX12_198 (by decide) rfl rfl dX12_seals_53 ?_
  refine lv_iconst (v := 0) C.1 C.2.1 dX12_seals_56 (by decide) ?_
  refine lv_aload C.1 C.2.1 dX12_seals_57 (lv_at hl 10 rfl) ?_
  refine lv_iload C.1 C.2.1 dX12_seals_59 (lv_at hl 11 rfl) ?_
  refine lv_iload C.1 C.2.1 dX12_seals_61 (lv_at hl 9 rfl) ?_
  refine lv_iadd C.1 C.2.1 dX12_seals_63 ?_
  refine m_i (y := nI (p6 + p5)) (nI_add p6 p5) ?_
  refine lv_bipush (v := 16) C.1 C.2.1 dX12_seals_64 (by decide) ?_
  refine m_csv C w hl csX12_265 (As := [.ref (r (156)), .int 0, .ref (r (k4)), .int (nI (p6 + p5)), .int 16]) (rest := []) (c_X12_copy l D b0 r M_5 156 0 k4 (p6 + p5) 16 (by decide) rfl (by decide) (by omega) hk4 hs4 hn4 (by omega) (by omega) (by omega)) rfl rfl (Nat.le_of_ble_eq_true rfl) ⟨Nat.le_of_ble_eq_true rfl, Nat.le_of_ble_eq_true rfl⟩ ⟨Nat.zero_le _, Nat.zero_le _⟩ dX12_seals_66 (fun M_6 H locs eM_6 w => ?_)
  exact m_vret C w (by subst eM_1 eM_2 eM_3 eM_4 eM_5 eM_6; exact Eq.symm (rfl)) dX12_seals_69

def f_X12_opens_B1 (k1 : Nat) (p1 : Nat) (u1 : Int64) (k3 : Nat) (p4 : Nat) (p5 : Nat) (k4 : Nat) (p6 : Nat) (M_5 : mm_M) : Int32 × mm_M :=
  if ∀ ii, ii < 16 → M_5.1 156 ii = M_5.1 k3 (p4 + p5 - 16 + ii) then (let M_7 := f_X12_mixes k1 p1 (u1) k3 p4 (p5 - 16) k4 p6 M_5
  ((1 : Int32), M_7)) else (((0 : Int32), M_5))
theorem w_f_X12_opens_B1 (k1 : Nat) (p1 : Nat) (u1 : Int64) (k3 : Nat) (p4 : Nat) (p5 : Nat) (k4 : Nat) (p6 : Nat) (M_5 : mm_M) : mm_fr2 [k4, 147, 149, 148] M_5 (f_X12_opens_B1 k1 p1 u1 k3 p4 p5 k4 p6 M_5) := by
  unfold f_X12_opens_B1
  exact (mm_fr_ite2 (fun _ => ((w_f_X12_mixes _ _ _ _ _ _ _ _ _).on (by simp) (mm_fr_refl _ _)).b) (fun _ => (mm_fr_refl _ _).b))
def f_X12_opens (k1 : Nat) (p1 : Nat) (u1 : Int64) (k2 : Nat) (p2 : Nat) (p3 : Nat) (k3 : Nat) (p4 : Nat) (p5 : Nat) (k4 : Nat) (p6 : Nat) (M : mm_M) : Int32 × mm_M :=
  if 16 ≤ p5 then (let M_2 := f_X12_tagBegins k1 p1 (u1) M
  let M_3 := f_X12_tagRow k2 p2 p3 M_2
  let M_4 := f_X12_tagRow k3 p4 (p5 - 16) M_3
  let M_5 := f_X12_tagEnds (nI (p3)) (nI (p5 - 16)) M_4
  f_X12_opens_B1 k1 p1 u1 k3 p4 p5 k4 p6 M_5) else (((0 : Int32), M))
theorem w_f_X12_opens (k1 : Nat) (p1 : Nat) (u1 : Int64) (k2 : Nat) (p2 : Nat) (p3 : Nat) (k3 : Nat) (p4 : Nat) (p5 : Nat) (k4 : Nat) (p6 : Nat) (M : mm_M) : mm_fr2 [147, 149, 148, 155, 151, 150, 152, 153, 156, 154, k4] M (f_X12_opens k1 p1 u1 k2 p2 p3 k3 p4 p5 k4 p6 M) := by
  unfold f_X12_opens
  exact (mm_fr_ite2 (fun _ => ((w_f_X12_opens_B1 _ _ _ _ _ _ _ _ _).on (by simp) ((w_f_X12_tagEnds _ _ _).on (by simp) ((w_f_X12_tagRow _ _ _ _).on (by simp) ((w_f_X12_tagRow _ _ _ _).on (by simp) ((w_f_X12_tagBegins _ _ _ _).on (by simp) (mm_fr_refl _ _))))))) (fun _ => (mm_fr_refl _ _).b))
set_option maxHeartbeats 4000000 in
set_option maxRecDepth 100000 in
theorem c_X12_opens (l : Launch) (D : va_G) (b0 : Nat) (r : Nat → Nat) (M : mm_M) (k1 : Nat) (p1 : Nat) (u1 : Int64) (k2 : Nat) (p2 : Nat) (p3 : Nat) (k3 : Nat) (p4 : Nat) (p5 : Nat) (k4 : Nat) (p6 : Nat) {n1 : Nat} {w1 : Bool} (hk1 : k1 < 181) (hs1 : mm_sh k1 = .inl (.byte, n1, w1)) (hn1 : n1 < 2 ^ 31) (hp1 : p1 + 32 ≤ n1) (hq1 : n1 < 2 ^ 30) {n2 : Nat} {w2 : Bool} (hk2 : k2 < 181) (hs2 : mm_sh k2 = .inl (.byte, n2, w2)) (hn2 : n2 < 2 ^ 31) (hp2 : p2 + p3 ≤ n2) (hq2 : n2 < 2 ^ 30) {n3 : Nat} {w3 : Bool} (hk3 : k3 < 181) (hs3 : mm_sh k3 = .inl (.byte, n3, w3)) (hn3 : n3 < 2 ^ 31) (hp3 : p4 + p5 ≤ n3) (hq3 : n3 < 2 ^ 30) {n4 : Nat} (hk4 : k4 < 173) (hs4 : mm_sh k4 = .inl (.byte, n4, true)) (hn4 : n4 < 2 ^ 31) (hp4 : p6 + (p5 - 16) ≤ n4) (hq4 : n4 < 2 ^ 30) : mm_Mi l yX12_opens cX12_opens 14 .boolean 4 102 D b0 r [.ref (r (117)), .ref (r (k1)), .int (nI (p1)), .long (u1), .ref (r (k2)), .int (nI (p2)), .int (nI (p3)), .ref (r (k3)), .int (nI (p4)), .int (nI (p5)), .ref (r (k4)), .int (nI (p6))] M (fun v M' => (v, M') = f_X12_opens k1 p1 u1 k2 p2 p3 k3 p4 p5 k4 p6 M) := by
  refine mm_enter (cc := cX12_opens) (nL := 14) (ret := (some .boolean)) (by decide) (Nat.le_of_ble_eq_true rfl) ?_
  intro p e s m args below meth c C w ls hl
  have hl : lv_has ls 14 [(0, .ref (r (117))), (1, .ref (r (k1))), (2, .int (nI (p1))), (3, .long (u1)), (5, .ref (r (k2))), (6, .int (nI (p2))), (7, .int (nI (p3))), (8, .ref (r (k3))), (9, .int (nI (p4))), (10, .int (nI (p5))), (11, .ref (r (k4))), (12, .int (nI (p6)))] := hl
  refine lv_iload C.1 C.2.1 dX12_opens_0 (lv_at hl 9 rfl) ?_
  refine lv_bipush (v := 16) C.1 C.2.1 dX12_opens_2 (by decide) ?_
  refine m_icmp_ge (tgt := 9) (a := p5) (b := 16) C (by omega) (by omega) dX12_opens_4 (by decide) (fun h_1 => ?_) (fun h_1 => ?_)
  · refine lv_aload_n C.1 C.2.1 dX12_opens_9 rfl (lv_at hl 0 rfl) ?_
    refine lv_aload_n C.1 C.2.1 dX12_opens_10 rfl (lv_at hl 1 rfl) ?_
    refine lv_iload_n C.1 C.2.1 dX12_opens_11 rfl (lv_at hl 2 rfl) ?_
    refine lv_lload_n C.1 C.2.1 dX12_opens_12 rfl (lv_at hl 3 rfl) ?_
    refine m_cvv C w hl cvX12_353 (k := 117) (by decide) rfl (q := (RX12, TX12, 58)) rfl rfl (As := [.ref (r (k1)), .int (nI (p1)), .long (u1)]) (rest := []) (c_X12_tagBegins l D b0 r M k1 p1 (u1) hk1 hs1 hn1 (by omega) (by omega)) rfl rfl (Nat.le_of_ble_eq_true rfl) ⟨Nat.le_of_ble_eq_true rfl, Nat.le_of_ble_eq_true rfl⟩ ⟨Nat.zero_le _, Nat.zero_le _⟩ dX12_opens_13 (fun M_2 H locs eM_2 w => ?_)
    refine lv_aload_n C.1 C.2.1 dX12_opens_16 rfl (lv_at hl 0 rfl) ?_
    refine lv_aload C.1 C.2.1 dX12_opens_17 (lv_at hl 4 rfl) ?_
    refine lv_iload C.1 C.2.1 dX12_opens_19 (lv_at hl 5 rfl) ?_
    refine lv_iload C.1 C.2.1 dX12_opens_21 (lv_at hl 6 rfl) ?_
    refine m_cvv C w hl cvX12_357 (k := 117) (by decide) rfl (q := (RX12, TX12, 58)) rfl rfl (As := [.ref (r (k2)), .int (nI (p2)), .int (nI (p3))]) (rest := []) (c_X12_tagRow l D b0 r M_2 k2 p2 p3 hk2 hs2 hn2 (by omega) (by omega)) rfl rfl (Nat.le_of_ble_eq_true rfl) ⟨Nat.le_of_ble_eq_true rfl, Nat.le_of_ble_eq_true rfl⟩ ⟨Nat.zero_le _, Nat.zero_le _⟩ dX12_opens_23 (fun M_3 H locs eM_3 w => ?_)
    refine lv_aload_n C.1 C.2.1 dX12_opens_26 rfl (lv_at hl 0 rfl) ?_
    refine lv_aload C.1 C.2.1 dX12_opens_27 (lv_at hl 7 rfl) ?_
    refine lv_iload C.1 C.2.1 dX12_opens_29 (lv_at hl 8 rfl) ?_
    refine lv_iload C.1 C.2.1 dX12_opens_31 (lv_at hl 9 rfl) ?_
    refine lv_bipush (v := 16) C.1 C.2.1 dX12_opens_33 (by decide) ?_
    refine lv_isub C.1 C.2.1 dX12_opens_35 ?_
    refine m_i (y := nI (p5 - 16)) (pk_sub (a := p5) (b := 16) (by omega)) ?_
    refine m_cvv C w hl cvX12_357 (k := 117) (by decide) rfl (q := (RX12, TX12, 58)) rfl rfl (As := [.ref (r (k3)), .int (nI (p4)), .int (nI (p5 - 16))]) (rest := []) (c_X12_tagRow l D b0 r M_3 k3 p4 (p5 - 16) hk3 hs3 hn3 (by omega) (by omega)) rfl rfl (Nat.le_of_ble_eq_true rfl) ⟨Nat.le_of_ble_eq_true rfl, Nat.le_of_ble_eq_true rfl⟩ ⟨Nat.zero_le _, Nat.zero_le _⟩ dX12_opens_36 (fun M_4 H locs eM_4 w => ?_)
    refine lv_aload_n C.1 C.2.1 dX12_opens_39 rfl (lv_at hl 0 rfl) ?_
    refine lv_iload C.1 C.2.1 dX12_opens_40 (lv_at hl 6 rfl) ?_
    refine lv_iload C.1 C.2.1 dX12_opens_42 (lv_at hl 9 rfl) ?_
    refine lv_bipush (v := 16) C.1 C.2.1 dX12_opens_44 (by decide) ?_
    refine lv_isub C.1 C.2.1 dX12_opens_46 ?_
    refine m_i (y := nI (p5 - 16)) (pk_sub (a := p5) (b := 16) (by omega)) ?_
    refine m_cvv C w hl cvX12_360 (k := 117) (by decide) rfl (q := (RX12, TX12, 58)) rfl rfl (As := [.int (nI (p3)), .int (nI (p5 - 16))]) (rest := []) (c_X12_tagEnds l D b0 r M_4 (nI (p3)) (nI (p5 - 16)) ) rfl rfl (Nat.le_of_ble_eq_true rfl) ⟨Nat.le_of_ble_eq_true rfl, Nat.le_of_ble_eq_true rfl⟩ ⟨Nat.zero_le _, Nat.zero_le _⟩ dX12_opens_47 (fun M_5 H locs eM_5 w => ?_)
    by_cases hE : ∀ ii, ii < 16 → M_5.1 156 ii = M_5.1 k3 (p4 + p5 - 16 + ii)
    · refine lv_iconst (v := 0) C.1 C.2.1 dX12_opens_50 (by decide) ?_
      refine lv_istore (lv' := [(13, .int 0), (0, .ref (r (117))), (1, .ref (r (k1))), (2, .int (nI (p1))), (3, .long (u1)), (5, .ref (r (k2))), (6, .int (nI (p2))), (7, .int (nI (p3))), (8, .ref (r (k3))), (9, .int (nI (p4))), (10, .int (nI (p5))), (11, .ref (r (k4))), (12, .int (nI (p6)))]) C.1 C.2.1 dX12_opens_51 hl (by decide) rfl (fun ls hl => ?_)
      have loop : ∀ (k t : Nat), t + k = 16 → ∀ (H : Heap) (locs : List Loc) (ls : Array Slot), mm_W D b0 r (M_5) s H locs → lv_has ls 14 [(13, .int (nI (t))), (0, .ref (r (117))), (1, .ref (r (k1))), (2, .int (nI (p1))), (3, .long (u1)), (5, .ref (r (k2))), (6, .int (nI (p2))), (7, .int (nI (p3))), (8, .ref (r (k3))), (9, .int (nI (p4))), (10, .int (nI (p5))), (11, .ref (r (k4))), (12, .int (nI (p6)))] → W p l e (mm_rm 4 102) s m args below meth c H locs 0 0 (MQ below (va_Qi (fun v M' => (v, M') = f_X12_opens k1 p1 u1 k2 p2 p3 k3 p4 p5 k4 p6 M) (mm_U D b0 r) (fun q => b0 ≤ q)) args s 0 0 (fun q => b0 ≤ q)) (F0 m 53 ls []) := by
        intro k
        induction k with
        | zero =>
          intro t ht H locs ls w hl
          obtain rfl : 16 = t := by omega
          refine lv_iload C.1 C.2.1 dX12_opens_53 (lv_at hl 0 rfl) ?_
          refine lv_bipush (v := 16) C.1 C.2.1 dX12_opens_55 (by decide) ?_
          refine m_icmp_ge (tgt := 92) (a := 16) (b := 16) C (by omega) (by omega) dX12_opens_57 (by decide) (fun _ => ?_) (fun h_6 => absurd h_6 (by omega))
          refine lv_aload_n C.1 C.2.1 dX12_opens_92 rfl (lv_at hl 1 rfl) ?_
          refine lv_aload_n C.1 C.2.1 dX12_opens_93 rfl (lv_at hl 2 rfl) ?_
          refine lv_iload_n C.1 C.2.1 dX12_opens_94 rfl (lv_at hl 3 rfl) ?_
          refine lv_lload_n C.1 C.2.1 dX12_opens_95 rfl (lv_at hl 4 rfl) ?_
          refine lv_aload C.1 C.2.1 dX12_opens_96 (lv_at hl 8 rfl) ?_
          refine lv_iload C.1 C.2.1 dX12_opens_98 (lv_at hl 9 rfl) ?_
          refine lv_iload C.1 C.2.1 dX12_opens_100 (lv_at hl 10 rfl) ?_
          refine lv_bipush (v := 16) C.1 C.2.1 dX12_opens_102 (by decide) ?_
          refine lv_isub C.1 C.2.1 dX12_opens_104 ?_
          refine m_i (y := nI (p5 - 16)) (pk_sub (a := p5) (b := 16) (by omega)) ?_
          refine lv_aload C.1 C.2.1 dX12_opens_105 (lv_at hl 11 rfl) ?_
          refine lv_iload C.1 C.2.1 dX12_opens_107 (lv_at hl 12 rfl) ?_
          refine m_cvv C w hl cvX12_349 (k := 117) (by decide) rfl (q := (RX12, TX12, 58)) rfl rfl (As := [.ref (r (k1)), .int (nI (p1)), .long (u1), .ref (r (k3)), .int (nI (p4)), .int (nI (p5 - 16)), .ref (r (k4)), .int (nI (p6))]) (rest := []) (c_X12_mixes l D b0 r M_5 k1 p1 (u1) k3 p4 (p5 - 16) k4 p6 hk1 hs1 hn1 (by omega) (by omega) hk3 hs3 hn3 (by omega) (by omega) hk4 hs4 hn4 (by omega) (by omega)) rfl rfl (Nat.le_of_ble_eq_true rfl) ⟨Nat.le_of_ble_eq_true rfl, Nat.le_of_ble_eq_true rfl⟩ ⟨Nat.zero_le _, Nat.zero_le _⟩ dX12_opens_109 (fun M_7 H locs eM_7 w => ?_)
          refine lv_iconst (v := 1) C.1 C.2.1 dX12_opens_112 (by decide) ?_
          exact m_zret C w (by decide) (by subst eM_2 eM_3 eM_4 eM_5 eM_7; exact Eq.symm (((if_pos h_1).trans ((if_pos hE).trans rfl)))) dX12_opens_113
        | succ k ih =>
          intro t ht H locs ls w hl
          refine lv_iload C.1 C.2.1 dX12_opens_53 (lv_at hl 0 rfl) ?_
          refine lv_bipush (v := 16) C.1 C.2.1 dX12_opens_55 (by decide) ?_
          refine m_icmp_ge (tgt := 92) (a := t) (b := 16) C (by omega) (by omega) dX12_opens_57 (by decide) (fun h_8 => absurd h_8 (by omega)) (fun _ => ?_)
          refine lv_aload_n C.1 C.2.1 dX12_opens_60 rfl (lv_at hl 1 rfl) ?_
          refine m_get C w (k := 117) (j := 41) (v := .ref (r (156))) flX12_198 (by decide) rfl rfl dX12_opens_61 ?_
          refine lv_iload C.1 C.2.1 dX12_opens_64 (lv_at hl 0 rfl) ?_
          refine m_bald C w (k := 156) (i := t) (n := 16) (wr := true) (by decide) rfl (by omega) (by decide) dX12_opens_66 ?_
          refine lv_aload C.1 C.2.1 dX12_opens_67 (lv_at hl 8 rfl) ?_
          refine lv_iload C.1 C.2.1 dX12_opens_69 (lv_at hl 9 rfl) ?_
          refine lv_iload C.1 C.2.1 dX12_opens_71 (lv_at hl 10 rfl) ?_
          refine lv_iadd C.1 C.2.1 dX12_opens_73 ?_
          refine m_i (y := nI (p4 + p5)) (nI_add p4 p5) ?_
          refine lv_bipush (v := 16) C.1 C.2.1 dX12_opens_74 (by decide) ?_
          refine lv_isub C.1 C.2.1 dX12_opens_76 ?_
          refine m_i (y := nI ((p4 + p5) - 16)) (pk_sub (a := p4 + p5) (b := 16) (by omega)) ?_
          refine lv_iload C.1 C.2.1 dX12_opens_77 (lv_at hl 0 rfl) ?_
          refine lv_iadd C.1 C.2.1 dX12_opens_79 ?_
          refine m_i (y := nI ((p4 + p5) - 16 + t)) (nI_add ((p4 + p5) - 16) t) ?_
          refine m_bald C w (k := k3) (i := (p4 + p5) - 16 + t) (n := n3) (wr := w3) hk3 hs3 (by omega) hn3 dX12_opens_80 ?_
          refine lv_icmp_eq (tgt := 86) C.1 C.2.1 dX12_opens_81 (by decide) (fun _ => ?_) (fun h_9 => absurd h_9 (fun q => q (hE t (by omega))))
          refine lv_iinc (v := (nI (t + 1))) (lv' := [(13, .int (nI (t + 1))), (0, .ref (r (117))), (1, .ref (r (k1))), (2, .int (nI (p1))), (3, .long (u1)), (5, .ref (r (k2))), (6, .int (nI (p2))), (7, .int (nI (p3))), (8, .ref (r (k3))), (9, .int (nI (p4))), (10, .int (nI (p5))), (11, .ref (r (k4))), (12, .int (nI (p6)))]) C.1 C.2.1 dX12_opens_86 hl (k := 0) rfl (nI_add t 1) (by decide) rfl (fun ls hl => ?_)
          refine lv_goto (tgt := 53) C.1 C.2.1 dX12_opens_89 (by decide) ?_
          exact ih (t + 1) (by omega) _ _ _ w (lv_sub hl [0, 1, 2, 3, 4, 5, 6, 7, 8, 9, 10, 11, 12] rfl)
      exact loop 16 0 (by omega) _ _ ls w hl
    · refine lv_iconst (v := 0) C.1 C.2.1 dX12_opens_50 (by decide) ?_
      refine lv_istore (lv' := [(13, .int 0), (0, .ref (r (117))), (1, .ref (r (k1))), (2, .int (nI (p1))), (3, .long (u1)), (5, .ref (r (k2))), (6, .int (nI (p2))), (7, .int (nI (p3))), (8, .ref (r (k3))), (9, .int (nI (p4))), (10, .int (nI (p5))), (11, .ref (r (k4))), (12, .int (nI (p6)))]) C.1 C.2.1 dX12_opens_51 hl (by decide) rfl (fun ls hl => ?_)
      have loop : ∀ (k t : Nat), t + k = 16 → (∃ j, t ≤ j ∧ j < 16 ∧ ¬ M_5.1 156 j = M_5.1 k3 (p4 + p5 - 16 + j)) → ∀ (H : Heap) (locs : List Loc) (ls : Array Slot), mm_W D b0 r (M_5) s H locs → lv_has ls 14 [(13, .int (nI (t))), (0, .ref (r (117))), (1, .ref (r (k1))), (2, .int (nI (p1))), (3, .long (u1)), (5, .ref (r (k2))), (6, .int (nI (p2))), (7, .int (nI (p3))), (8, .ref (r (k3))), (9, .int (nI (p4))), (10, .int (nI (p5))), (11, .ref (r (k4))), (12, .int (nI (p6)))] → W p l e (mm_rm 4 102) s m args below meth c H locs 0 0 (MQ below (va_Qi (fun v M' => (v, M') = f_X12_opens k1 p1 u1 k2 p2 p3 k3 p4 p5 k4 p6 M) (mm_U D b0 r) (fun q => b0 ≤ q)) args s 0 0 (fun q => b0 ≤ q)) (F0 m 53 ls []) := by
        intro k
        induction k with
        | zero =>
          intro t ht hx H locs ls w hl
          obtain ⟨j, h1, h2, h3⟩ := hx; omega
        | succ k ih =>
          intro t ht hx H locs ls w hl
          by_cases hP : M_5.1 156 t = M_5.1 k3 (p4 + p5 - 16 + t)
          · refine lv_iload C.1 C.2.1 dX12_opens_53 (lv_at hl 0 rfl) ?_
            refine lv_bipush (v := 16) C.1 C.2.1 dX12_opens_55 (by decide) ?_
            refine m_icmp_ge (tgt := 92) (a := t) (b := 16) C (by omega) (by omega) dX12_opens_57 (by decide) (fun h_10 => absurd h_10 (by omega)) (fun _ => ?_)
            refine lv_aload_n C.1 C.2.1 dX12_opens_60 rfl (lv_at hl 1 rfl) ?_
            refine m_get C w (k := 117) (j := 41) (v := .ref (r (156))) flX12_198 (by decide) rfl rfl dX12_opens_61 ?_
            refine lv_iload C.1 C.2.1 dX12_opens_64 (lv_at hl 0 rfl) ?_
            refine m_bald C w (k := 156) (i := t) (n := 16) (wr := true) (by decide) rfl (by omega) (by decide) dX12_opens_66 ?_
            refine lv_aload C.1 C.2.1 dX12_opens_67 (lv_at hl 8 rfl) ?_
            refine lv_iload C.1 C.2.1 dX12_opens_69 (lv_at hl 9 rfl) ?_
            refine lv_iload C.1 C.2.1 dX12_opens_71 (lv_at hl 10 rfl) ?_
            refine lv_iadd C.1 C.2.1 dX12_opens_73 ?_
            refine m_i (y := nI (p4 + p5)) (nI_add p4 p5) ?_
            refine lv_bipush (v := 16) C.1 C.2.1 dX12_opens_74 (by decide) ?_
            refine lv_isub C.1 C.2.1 dX12_opens_76 ?_
            refine m_i (y := nI ((p4 + p5) - 16)) (pk_sub (a := p4 + p5) (b := 16) (by omega)) ?_
            refine lv_iload C.1 C.2.1 dX12_opens_77 (lv_at hl 0 rfl) ?_
            refine lv_iadd C.1 C.2.1 dX12_opens_79 ?_
            refine m_i (y := nI ((p4 + p5) - 16 + t)) (nI_add ((p4 + p5) - 16) t) ?_
            refine m_bald C w (k := k3) (i := (p4 + p5) - 16 + t) (n := n3) (wr := w3) hk3 hs3 (by omega) hn3 dX12_opens_80 ?_
            refine lv_icmp_eq (tgt := 86) C.1 C.2.1 dX12_opens_81 (by decide) (fun _ => ?_) (fun h_11 => absurd h_11 (fun q => q hP))
            refine lv_iinc (v := (nI (t + 1))) (lv' := [(13, .int (nI (t + 1))), (0, .ref (r (117))), (1, .ref (r (k1))), (2, .int (nI (p1))), (3, .long (u1)), (5, .ref (r (k2))), (6, .int (nI (p2))), (7, .int (nI (p3))), (8, .ref (r (k3))), (9, .int (nI (p4))), (10, .int (nI (p5))), (11, .ref (r (k4))), (12, .int (nI (p6)))]) C.1 C.2.1 dX12_opens_86 hl (k := 0) rfl (nI_add t 1) (by decide) rfl (fun ls hl => ?_)
            refine lv_goto (tgt := 53) C.1 C.2.1 dX12_opens_89 (by decide) ?_
            exact ih (t + 1) (by omega) (by obtain ⟨j, h1, h2, h3⟩ := hx; refine ⟨j, ?_, h2, h3⟩; rcases Nat.lt_or_ge t j with q | q; exact q; exact absurd ((show j = t by omega) ▸ hP) h3) _ _ _ w (lv_sub hl [0, 1, 2, 3, 4, 5, 6, 7, 8, 9, 10, 11, 12] rfl)
          · refine lv_iload C.1 C.2.1 dX12_opens_53 (lv_at hl 0 rfl) ?_
            refine lv_bipush (v := 16) C.1 C.2.1 dX12_opens_55 (by decide) ?_
            refine m_icmp_ge (tgt := 92) (a := t) (b := 16) C (by omega) (by omega) dX12_opens_57 (by decide) (fun h_12 => absurd h_12 (by omega)) (fun _ => ?_)
            refine lv_aload_n C.1 C.2.1 dX12_opens_60 rfl (lv_at hl 1 rfl) ?_
            refine m_get C w (k := 117) (j := 41) (v := .ref (r (156))) flX12_198 (by decide) rfl rfl dX12_opens_61 ?_
            refine lv_iload C.1 C.2.1 dX12_opens_64 (lv_at hl 0 rfl) ?_
            refine m_bald C w (k := 156) (i := t) (n := 16) (wr := true) (by decide) rfl (by omega) (by decide) dX12_opens_66 ?_
            refine lv_aload C.1 C.2.1 dX12_opens_67 (lv_at hl 8 rfl) ?_
            refine lv_iload C.1 C.2.1 dX12_opens_69 (lv_at hl 9 rfl) ?_
            refine lv_iload C.1 C.2.1 dX12_opens_71 (lv_at hl 10 rfl) ?_
            refine lv_iadd C.1 C.2.1 dX12_opens_73 ?_
            refine m_i (y := nI (p4 + p5)) (nI_add p4 p5) ?_
            refine lv_bipush (v := 16) C.1 C.2.1 dX12_opens_74 (by decide) ?_
            refine lv_isub C.1 C.2.1 dX12_opens_76 ?_
            refine m_i (y := nI ((p4 + p5) - 16)) (pk_sub (a := p4 + p5) (b := 16) (by omega)) ?_
            refine lv_iload C.1 C.2.1 dX12_opens_77 (lv_at hl 0 rfl) ?_
            refine lv_iadd C.1 C.2.1 dX12_opens_79 ?_
            refine m_i (y := nI ((p4 + p5) - 16 + t)) (nI_add ((p4 + p5) - 16) t) ?_
            refine m_bald C w (k := k3) (i := (p4 + p5) - 16 + t) (n := n3) (wr := w3) hk3 hs3 (by omega) hn3 dX12_opens_80 ?_
            refine lv_icmp_eq (tgt := 86) C.1 C.2.1 dX12_opens_81 (by decide) (fun h_13 => absurd h_13 hP) (fun _ => ?_)
            refine lv_iconst (v := 0) C.1 C.2.1 dX12_opens_84 (by decide) ?_
            exact m_zret C w (by decide) (by subst eM_2 eM_3 eM_4 eM_5; exact Eq.symm (((if_pos h_1).trans ((if_neg hE).trans rfl)))) dX12_opens_85
      exact loop 16 0 (by omega) (mm_some hE) _ _ ls w hl
  · refine lv_iconst (v := 0) C.1 C.2.1 dX12_opens_7 (by decide) ?_
    exact m_zret C w (by decide) (by exact Eq.symm (((if_neg (Nat.not_le.mpr h_1)).trans rfl))) dX12_opens_8
