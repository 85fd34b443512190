/-- the reference's step: the ladder's loop between its two swaps -/
def r_st (M_21 : mm_M) : mm_M :=
  let M_22 := f_X12_added 137 133 135 M_21
  let M_23 := f_X12_less 133 133 135 M_22
  let M_24 := f_X12_added 135 134 136 M_23
  let M_25 := f_X12_less 134 134 136 M_24
  let M_26 := f_X12_times 136 137 137 M_25
  let M_27 := f_X12_times 138 133 133 M_26
  let M_28 := f_X12_times 133 135 133 M_27
  let M_29 := f_X12_times 135 134 137 M_28
  let M_30 := f_X12_added 137 133 135 M_29
  let M_31 := f_X12_less 133 133 135 M_30
  let M_32 := f_X12_times 134 133 133 M_31
  let M_33 := f_X12_less 135 136 138 M_32
  let M_34 := f_X12_times 133 135 140 M_33
  let M_35 := f_X12_added 133 133 136 M_34
  let M_36 := f_X12_times 135 135 133 M_35
  let M_37 := f_X12_times 133 136 138 M_36
  let M_38 := f_X12_times 136 134 132 M_37
  let M_39 := f_X12_times 134 137 137 M_38
  M_39

theorem r_step {M : mm_M} {x a c b d : Int} (hx : r_is M 132 131072 x) (hk : r_is M 140 131072 121665) (ha : r_is M 133 131072 a) (hc : r_is M 135 131072 c) (hb : r_is M 134 131072 b) (hd : r_is M 136 131072 d) :
    r_is (r_st M) 132 131072 x ∧ r_is (r_st M) 140 131072 121665 ∧ r_is (r_st M) 133 131072 (st_a a c) ∧ r_is (r_st M) 135 131072 (st_c a c) ∧ r_is (r_st M) 134 131072 (st_b a c b d) ∧ r_is (r_st M) 136 131072 (st_d x a c b d) := by
  unfold r_st
  dsimp only
  generalize e1 : f_X12_added 137 133 135 M = M1
  have w := w_f_X12_added 137 133 135 M
  have s1 := r_add 137 ha hc (by decide)
  rw [e1] at w s1
  replace hx := hx.fr w (by decide)
  replace hk := hk.fr w (by decide)
  replace ha := ha.fr w (by decide)
  replace hc := hc.fr w (by decide)
  replace hb := hb.fr w (by decide)
  replace hd := hd.fr w (by decide)
  generalize e2 : f_X12_less 133 133 135 M1 = M2
  have w := w_f_X12_less 133 133 135 M1
  have s2 := r_sub 133 ha hc (by decide)
  rw [e2] at w s2
  replace hx := hx.fr w (by decide)
  replace hk := hk.fr w (by decide)
  replace hb := hb.fr w (by decide)
  replace hd := hd.fr w (by decide)
  replace s1 := s1.fr w (by decide)
  generalize e3 : f_X12_added 135 134 136 M2 = M3
  have w := w_f_X12_added 135 134 136 M2
  have s3 := r_add 135 hb hd (by decide)
  rw [e3] at w s3
  replace hx := hx.fr w (by decide)
  replace hk := hk.fr w (by decide)
  replace s2 := s2.fr w (by decide)
  replace hb := hb.fr w (by decide)
  replace hd := hd.fr w (by decide)
  replace s1 := s1.fr w (by decide)
  generalize e4 : f_X12_less 134 134 136 M3 = M4
  have w := w_f_X12_less 134 134 136 M3
  have s4 := r_sub 134 hb hd (by decide)
  rw [e4] at w s4
  replace hx := hx.fr w (by decide)
  replace hk := hk.fr w (by decide)
  replace s2 := s2.fr w (by decide)
  replace s1 := s1.fr w (by decide)
  replace s3 := s3.fr w (by decide)
  generalize e5 : f_X12_times 136 137 137 M4 = M5
  have w := w_f_X12_times 136 137 137 M4
  have s5 := r_mulI 136 s1 s1 (by decide) (by decide) (by decide) (by decide) (by decide)
  rw [e5] at w s5
  replace hx := hx.fr w (by decide)
  replace hk := hk.fr w (by decide)
  replace s2 := s2.fr w (by decide)
  replace s4 := s4.fr w (by decide)
  replace s1 := s1.fr w (by decide)
  replace s3 := s3.fr w (by decide)
  generalize e6 : f_X12_times 138 133 133 M5 = M6
  have w := w_f_X12_times 138 133 133 M5
  have s6 := r_mulI 138 s2 s2 (by decide) (by decide) (by decide) (by decide) (by decide)
  rw [e6] at w s6
  replace hx := hx.fr w (by decide)
  replace hk := hk.fr w (by decide)
  replace s2 := s2.fr w (by decide)
  replace s4 := s4.fr w (by decide)
  replace s1 := s1.fr w (by decide)
  replace s3 := s3.fr w (by decide)
  replace s5 := s5.fr w (by decide)
  generalize e7 : f_X12_times 133 135 133 M6 = M7
  have w := w_f_X12_times 133 135 133 M6
  have s7 := r_mulI 133 s3 s2 (by decide) (by decide) (by decide) (by decide) (by decide)
  rw [e7] at w s7
  replace hx := hx.fr w (by decide)
  replace hk := hk.fr w (by decide)
  replace s4 := s4.fr w (by decide)
  replace s1 := s1.fr w (by decide)
  replace s5 := s5.fr w (by decide)
  replace s6 := s6.fr w (by decide)
  generalize e8 : f_X12_times 135 134 137 M7 = M8
  have w := w_f_X12_times 135 134 137 M7
  have s8 := r_mulI 135 s4 s1 (by decide) (by decide) (by decide) (by decide) (by decide)
  rw [e8] at w s8
  replace hx := hx.fr w (by decide)
  replace hk := hk.fr w (by decide)
  replace s7 := s7.fr w (by decide)
  replace s5 := s5.fr w (by decide)
  replace s6 := s6.fr w (by decide)
  generalize e9 : f_X12_added 137 133 135 M8 = M9
  have w := w_f_X12_added 137 133 135 M8
  have s9 := r_add 137 s7 s8 (by decide)
  rw [e9] at w s9
  replace hx := hx.fr w (by decide)
  replace hk := hk.fr w (by decide)
  replace s7 := s7.fr w (by decide)
  replace s5 := s5.fr w (by decide)
  replace s6 := s6.fr w (by decide)
  replace s8 := s8.fr w (by decide)
  generalize e10 : f_X12_less 133 133 135 M9 = M10
  have w := w_f_X12_less 133 133 135 M9
  have s10 := r_sub 133 s7 s8 (by decide)
  rw [e10] at w s10
  replace hx := hx.fr w (by decide)
  replace hk := hk.fr w (by decide)
  replace s5 := s5.fr w (by decide)
  replace s6 := s6.fr w (by decide)
  replace s9 := s9.fr w (by decide)
  generalize e11 : f_X12_times 134 133 133 M10 = M11
  have w := w_f_X12_times 134 133 133 M10
  have s11 := r_mulI 134 s10 s10 (by decide) (by decide) (by decide) (by decide) (by decide)
  rw [e11] at w s11
  replace hx := hx.fr w (by decide)
  replace hk := hk.fr w (by decide)
  replace s5 := s5.fr w (by decide)
  replace s6 := s6.fr w (by decide)
  replace s9 := s9.fr w (by decide)
  generalize e12 : f_X12_less 135 136 138 M11 = M12
  have w := w_f_X12_less 135 136 138 M11
  have s12 := r_sub 135 s5 s6 (by decide)
  rw [e12] at w s12
  replace hx := hx.fr w (by decide)
  replace hk := hk.fr w (by decide)
  replace s5 := s5.fr w (by decide)
  replace s6 := s6.fr w (by decide)
  replace s9 := s9.fr w (by decide)
  replace s11 := s11.fr w (by decide)
  generalize e13 : f_X12_times 133 135 140 M12 = M13
  have w := w_f_X12_times 133 135 140 M12
  have s13 := r_mulI 133 s12 hk (by decide) (by decide) (by decide) (by decide) (by decide)
  rw [e13] at w s13
  replace hx := hx.fr w (by decide)
  replace hk := hk.fr w (by decide)
  replace s5 := s5.fr w (by decide)
  replace s6 := s6.fr w (by decide)
  replace s9 := s9.fr w (by decide)
  replace s11 := s11.fr w (by decide)
  replace s12 := s12.fr w (by decide)
  generalize e14 : f_X12_added 133 133 136 M13 = M14
  have w := w_f_X12_added 133 133 136 M13
  have s14 := r_add 133 s13 s5 (by decide)
  rw [e14] at w s14
  replace hx := hx.fr w (by decide)
  replace hk := hk.fr w (by decide)
  replace s5 := s5.fr w (by decide)
  replace s6 := s6.fr w (by decide)
  replace s9 := s9.fr w (by decide)
  replace s11 := s11.fr w (by decide)
  replace s12 := s12.fr w (by decide)
  generalize e15 : f_X12_times 135 135 133 M14 = M15
  have w := w_f_X12_times 135 135 133 M14
  have s15 := r_mulI 135 s12 s14 (by decide) (by decide) (by decide) (by decide) (by decide)
  rw [e15] at w s15
  replace hx := hx.fr w (by decide)
  replace hk := hk.fr w (by decide)
  replace s5 := s5.fr w (by decide)
  replace s6 := s6.fr w (by decide)
  replace s9 := s9.fr w (by decide)
  replace s11 := s11.fr w (by decide)
  generalize e16 : f_X12_times 133 136 138 M15 = M16
  have w := w_f_X12_times 133 136 138 M15
  have s16 := r_mulI 133 s5 s6 (by decide) (by decide) (by decide) (by decide) (by decide)
  rw [e16] at w s16
  replace hx := hx.fr w (by decide)
  replace hk := hk.fr w (by decide)
  replace s9 := s9.fr w (by decide)
  replace s11 := s11.fr w (by decide)
  replace s15 := s15.fr w (by decide)
  generalize e17 : f_X12_times 136 134 132 M16 = M17
  have w := w_f_X12_times 136 134 132 M16
  have s17 := r_mulI 136 s11 hx (by decide) (by decide) (by decide) (by decide) (by decide)
  rw [e17] at w s17
  replace hx := hx.fr w (by decide)
  replace hk := hk.fr w (by decide)
  replace s9 := s9.fr w (by decide)
  replace s15 := s15.fr w (by decide)
  replace s16 := s16.fr w (by decide)
  generalize e18 : f_X12_times 134 137 137 M17 = M18
  have w := w_f_X12_times 134 137 137 M17
  have s18 := r_mulI 134 s9 s9 (by decide) (by decide) (by decide) (by decide) (by decide)
  rw [e18] at w s18
  replace hx := hx.fr w (by decide)
  replace hk := hk.fr w (by decide)
  replace s15 := s15.fr w (by decide)
  replace s16 := s16.fr w (by decide)
  replace s17 := s17.fr w (by decide)
  exact ⟨hx, hk, s16, s15.eq (Int.mul_comm _ _), s18.eq (by unfold st_b; grind), s17.eq (by unfold st_d; grind)⟩
