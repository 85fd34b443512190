/-! What holds at the law's entry. -/
def l_r (b0 : Nat) (ts : List Nat) (k : Nat) : Nat := if k < 173 then b0 + k else ts.getD (k - 173) 0
theorem s_at {D : va_G} {r : Nat → Nat} {s : State} {A : Nat → Prop} {k n : Nat} {ty : FieldType} (hk : 173 ≤ k) (hs : mm_sh k = .inl (ty, n, false)) (hty : ty = .byte ∨ ty = .int) (hok : mm_ok ty mm_M1 k n) (h : va_T ty (r k) n (fun j => .int (mm_tab k j)) A s s.heap) : mm_at D r mm_M1 s s.heap k := by
  obtain ⟨cell, h1, h2, h3, h4, h5, h6, h7⟩ := h
  have e : ∀ j, mm_M1.1 k j = mm_tab k j := fun j => if_pos hk
  refine mm_at.ar hs ⟨⟨cell, h1, h2, h3, h4, h5, fun j hj => ?_, fun q => by cases q⟩, hok, fun _ j _ => e j⟩
  rw [h6 j hj]
  rcases hty with rfl | rfl
  · show some (Value.int (mm_tab k j)) = some (Value.int (mm_M1.1 k j))
    rw [e j]
  · show some (Value.int (mm_tab k j)) = some (Value.int (mm_M1.1 k j))
    rw [e j]
theorem s_K {args : Array Value} {s : State} (hts : ∀ w ∈ wsL_law, w.before args s = true) : ∃ D : va_G, va_K D vwCl [] s := by
  have one : ∀ ci, n_K ci → ∃ z : ClassId × (Nat → Nat), ∀ q : vw_C, vwCl[ci]? = some q → u_Kn s q.1 q.2.1 q.2.2 z.1 z.2 := fun ci h => by
    obtain ⟨Cn, T, N, ty0, k1, k2, k3, k4, k5, k6⟩ := h
    obtain ⟨cC, iS, hz⟩ := u_known (C := Cn) (T := T) (N := N) (n := N) hts k2 (hts _ k5)
    refine ⟨(cC, iS), fun q hq => ?_⟩
    have e : q = (Cn, T, N) := Option.some.inj (hq.symm.trans k1)
    subst e
    exact hz
  have all : ∀ ci, ∃ z : ClassId × (Nat → Nat), ∀ q : vw_C, vwCl[ci]? = some q → u_Kn s q.1 q.2.1 q.2.2 z.1 z.2 := fun ci => by
    match ci with
    | 0 => exact one 0 nk0
    | 1 => exact one 1 nk2
    | 2 => exact one 2 nk3
    | 3 => exact one 3 nk4
    | 4 => exact one 4 nk5
    | 5 => exact one 5 nk6
    | 6 => exact one 6 nk7
    | 7 => exact one 7 nk8
    | 8 => exact one 8 nk9
    | 9 => exact one 9 nk10
    | 10 => exact one 10 nk11
    | 11 => exact one 11 nk12
    | n + 12 => exact (one 0 nk0).imp fun z _ q hq => by simp [vwCl] at hq
  obtain ⟨f, hf⟩ := Classical.axiomOfChoice all
  exact ⟨(fun k => (f k).1, fun k => (f k).2), fun k q hq => hf k q hq, fun k q h => by simp at h⟩
theorem s_T173 {args : Array Value} {s : State} {A : Nat → Prop} (hs : ∀ c ∈ flatC (Jvm.Cond.and given_1 narrow_1), c.before args s = true) (hA : ∀ a : Nat, a < s.heap.size → ¬ A a) : ∃ t : Nat, (Term.static "NoiseEngine$Curve25519" "BASE" "[B").eval args s none [] s = some (.ref t) ∧ va_T .byte t 32 (fun j => .int (mm_tab 173 j)) A s s.heap :=
  va_Tof (by decide) (hs _ (List.mem_of_getElem? (i := 5) rfl)) (va_eqt (hs _ (List.mem_of_getElem? (i := 6) rfl))) (fun j hj => va_eqt (match j, hj with
    | 0, _ => hs _ (List.mem_of_getElem? (i := 7) rfl)
    | 1, _ => hs _ (List.mem_of_getElem? (i := 8) rfl)
    | 2, _ => hs _ (List.mem_of_getElem? (i := 9) rfl)
    | 3, _ => hs _ (List.mem_of_getElem? (i := 10) rfl)
    | 4, _ => hs _ (List.mem_of_getElem? (i := 11) rfl)
    | 5, _ => hs _ (List.mem_of_getElem? (i := 12) rfl)
    | 6, _ => hs _ (List.mem_of_getElem? (i := 13) rfl)
    | 7, _ => hs _ (List.mem_of_getElem? (i := 14) rfl)
    | 8, _ => hs _ (List.mem_of_getElem? (i := 15) rfl)
    | 9, _ => hs _ (List.mem_of_getElem? (i := 16) rfl)
    | 10, _ => hs _ (List.mem_of_getElem? (i := 17) rfl)
    | 11, _ => hs _ (List.mem_of_getElem? (i := 18) rfl)
    | 12, _ => hs _ (List.mem_of_getElem? (i := 19) rfl)
    | 13, _ => hs _ (List.mem_of_getElem? (i := 20) rfl)
    | 14, _ => hs _ (List.mem_of_getElem? (i := 21) rfl)
    | 15, _ => hs _ (List.mem_of_getElem? (i := 22) rfl)
    | 16, _ => hs _ (List.mem_of_getElem? (i := 23) rfl)
    | 17, _ => hs _ (List.mem_of_getElem? (i := 24) rfl)
    | 18, _ => hs _ (List.mem_of_getElem? (i := 25) rfl)
    | 19, _ => hs _ (List.mem_of_getElem? (i := 26) rfl)
    | 20, _ => hs _ (List.mem_of_getElem? (i := 27) rfl)
    | 21, _ => hs _ (List.mem_of_getElem? (i := 28) rfl)
    | 22, _ => hs _ (List.mem_of_getElem? (i := 29) rfl)
    | 23, _ => hs _ (List.mem_of_getElem? (i := 30) rfl)
    | 24, _ => hs _ (List.mem_of_getElem? (i := 31) rfl)
    | 25, _ => hs _ (List.mem_of_getElem? (i := 32) rfl)
    | 26, _ => hs _ (List.mem_of_getElem? (i := 33) rfl)
    | 27, _ => hs _ (List.mem_of_getElem? (i := 34) rfl)
    | 28, _ => hs _ (List.mem_of_getElem? (i := 35) rfl)
    | 29, _ => hs _ (List.mem_of_getElem? (i := 36) rfl)
    | 30, _ => hs _ (List.mem_of_getElem? (i := 37) rfl)
    | 31, _ => hs _ (List.mem_of_getElem? (i := 38) rfl)
    | n + 32, h => absurd h (by omega))) hA
theorem s_T174 {args : Array Value} {s : State} {A : Nat → Prop} (hs : ∀ c ∈ flatC (Jvm.Cond.and given_1 narrow_1), c.before args s = true) (hA : ∀ a : Nat, a < s.heap.size → ¬ A a) : ∃ t : Nat, (Term.static "NoiseEngine$Curve25519" "LIMB_AT" "[I").eval args s none [] s = some (.ref t) ∧ va_T .int t 10 (fun j => .int (mm_tab 174 j)) A s s.heap :=
  va_Tof (by decide) (hs _ (List.mem_of_getElem? (i := 40) rfl)) (va_eqt (hs _ (List.mem_of_getElem? (i := 41) rfl))) (fun j hj => va_eqt (match j, hj with
    | 0, _ => hs _ (List.mem_of_getElem? (i := 42) rfl)
    | 1, _ => hs _ (List.mem_of_getElem? (i := 43) rfl)
    | 2, _ => hs _ (List.mem_of_getElem? (i := 44) rfl)
    | 3, _ => hs _ (List.mem_of_getElem? (i := 45) rfl)
    | 4, _ => hs _ (List.mem_of_getElem? (i := 46) rfl)
    | 5, _ => hs _ (List.mem_of_getElem? (i := 47) rfl)
    | 6, _ => hs _ (List.mem_of_getElem? (i := 48) rfl)
    | 7, _ => hs _ (List.mem_of_getElem? (i := 49) rfl)
    | 8, _ => hs _ (List.mem_of_getElem? (i := 50) rfl)
    | 9, _ => hs _ (List.mem_of_getElem? (i := 51) rfl)
    | n + 10, h => absurd h (by omega))) hA
theorem s_T175 {args : Array Value} {s : State} {A : Nat → Prop} (hs : ∀ c ∈ flatC (Jvm.Cond.and given_1 narrow_1), c.before args s = true) (hA : ∀ a : Nat, a < s.heap.size → ¬ A a) : ∃ t : Nat, (Term.static "NoiseEngine$Sha256" "FIRST_CHAIN" "[I").eval args s none [] s = some (.ref t) ∧ va_T .int t 8 (fun j => .int (mm_tab 175 j)) A s s.heap :=
  va_Tof (by decide) (hs _ (List.mem_of_getElem? (i := 53) rfl)) (va_eqt (hs _ (List.mem_of_getElem? (i := 54) rfl))) (fun j hj => va_eqt (match j, hj with
    | 0, _ => hs _ (List.mem_of_getElem? (i := 55) rfl)
    | 1, _ => hs _ (List.mem_of_getElem? (i := 56) rfl)
    | 2, _ => hs _ (List.mem_of_getElem? (i := 57) rfl)
    | 3, _ => hs _ (List.mem_of_getElem? (i := 58) rfl)
    | 4, _ => hs _ (List.mem_of_getElem? (i := 59) rfl)
    | 5, _ => hs _ (List.mem_of_getElem? (i := 60) rfl)
    | 6, _ => hs _ (List.mem_of_getElem? (i := 61) rfl)
    | 7, _ => hs _ (List.mem_of_getElem? (i := 62) rfl)
    | n + 8, h => absurd h (by omega))) hA
theorem s_T176 {args : Array Value} {s : State} {A : Nat → Prop} (hs : ∀ c ∈ flatC (Jvm.Cond.and given_1 narrow_1), c.before args s = true) (hA : ∀ a : Nat, a < s.heap.size → ¬ A a) : ∃ t : Nat, (Term.static "NoiseEngine$Sha256" "ROUNDS" "[I").eval args s none [] s = some (.ref t) ∧ va_T .int t 64 (fun j => .int (mm_tab 176 j)) A s s.heap :=
  va_Tof (by decide) (hs _ (List.mem_of_getElem? (i := 64) rfl)) (va_eqt (hs _ (List.mem_of_getElem? (i := 65) rfl))) (fun j hj => va_eqt (match j, hj with
    | 0, _ => hs _ (List.mem_of_getElem? (i := 66) rfl)
    | 1, _ => hs _ (List.mem_of_getElem? (i := 67) rfl)
    | 2, _ => hs _ (List.mem_of_getElem? (i := 68) rfl)
    | 3, _ => hs _ (List.mem_of_getElem? (i := 69) rfl)
    | 4, _ => hs _ (List.mem_of_getElem? (i := 70) rfl)
    | 5, _ => hs _ (List.mem_of_getElem? (i := 71) rfl)
    | 6, _ => hs _ (List.mem_of_getElem? (i := 72) rfl)
    | 7, _ => hs _ (List.mem_of_getElem? (i := 73) rfl)
    | 8, _ => hs _ (List.mem_of_getElem? (i := 74) rfl)
    | 9, _ => hs _ (List.mem_of_getElem? (i := 75) rfl)
    | 10, _ => hs _ (List.mem_of_getElem? (i := 76) rfl)
    | 11, _ => hs _ (List.mem_of_getElem? (i := 77) rfl)
    | 12, _ => hs _ (List.mem_of_getElem? (i := 78) rfl)
    | 13, _ => hs _ (List.mem_of_getElem? (i := 79) rfl)
    | 14, _ => hs _ (List.mem_of_getElem? (i := 80) rfl)
    | 15, _ => hs _ (List.mem_of_getElem? (i := 81) rfl)
    | 16, _ => hs _ (List.mem_of_getElem? (i := 82) rfl)
    | 17, _ => hs _ (List.mem_of_getElem? (i := 83) rfl)
    | 18, _ => hs _ (List.mem_of_getElem? (i := 84) rfl)
    | 19, _ => hs _ (List.mem_of_getElem? (i := 85) rfl)
    | 20, _ => hs _ (List.mem_of_getElem? (i := 86) rfl)
    | 21, _ => hs _ (List.mem_of_getElem? (i := 87) rfl)
    | 22, _ => hs _ (List.mem_of_getElem? (i := 88) rfl)
    | 23, _ => hs _ (List.mem_of_getElem? (i := 89) rfl)
    | 24, _ => hs _ (List.mem_of_getElem? (i := 90) rfl)
    | 25, _ => hs _ (List.mem_of_getElem? (i := 91) rfl)
    | 26, _ => hs _ (List.mem_of_getElem? (i := 92) rfl)
    | 27, _ => hs _ (List.mem_of_getElem? (i := 93) rfl)
    | 28, _ => hs _ (List.mem_of_getElem? (i := 94) rfl)
    | 29, _ => hs _ (List.mem_of_getElem? (i := 95) rfl)
    | 30, _ => hs _ (List.mem_of_getElem? (i := 96) rfl)
    | 31, _ => hs _ (List.mem_of_getElem? (i := 97) rfl)
    | 32, _ => hs _ (List.mem_of_getElem? (i := 98) rfl)
    | 33, _ => hs _ (List.mem_of_getElem? (i := 99) rfl)
    | 34, _ => hs _ (List.mem_of_getElem? (i := 100) rfl)
    | 35, _ => hs _ (List.mem_of_getElem? (i := 101) rfl)
    | 36, _ => hs _ (List.mem_of_getElem? (i := 102) rfl)
    | 37, _ => hs _ (List.mem_of_getElem? (i := 103) rfl)
    | 38, _ => hs _ (List.mem_of_getElem? (i := 104) rfl)
    | 39, _ => hs _ (List.mem_of_getElem? (i := 105) rfl)
    | 40, _ => hs _ (List.mem_of_getElem? (i := 106) rfl)
    | 41, _ => hs _ (List.mem_of_getElem? (i := 107) rfl)
    | 42, _ => hs _ (List.mem_of_getElem? (i := 108) rfl)
    | 43, _ => hs _ (List.mem_of_getElem? (i := 109) rfl)
    | 44, _ => hs _ (List.mem_of_getElem? (i := 110) rfl)
    | 45, _ => hs _ (List.mem_of_getElem? (i := 111) rfl)
    | 46, _ => hs _ (List.mem_of_getElem? (i := 112) rfl)
    | 47, _ => hs _ (List.mem_of_getElem? (i := 113) rfl)
    | 48, _ => hs _ (List.mem_of_getElem? (i := 114) rfl)
    | 49, _ => hs _ (List.mem_of_getElem? (i := 115) rfl)
    | 50, _ => hs _ (List.mem_of_getElem? (i := 116) rfl)
    | 51, _ => hs _ (List.mem_of_getElem? (i := 117) rfl)
    | 52, _ => hs _ (List.mem_of_getElem? (i := 118) rfl)
    | 53, _ => hs _ (List.mem_of_getElem? (i := 119) rfl)
    | 54, _ => hs _ (List.mem_of_getElem? (i := 120) rfl)
    | 55, _ => hs _ (List.mem_of_getElem? (i := 121) rfl)
    | 56, _ => hs _ (List.mem_of_getElem? (i := 122) rfl)
    | 57, _ => hs _ (List.mem_of_getElem? (i := 123) rfl)
    | 58, _ => hs _ (List.mem_of_getElem? (i := 124) rfl)
    | 59, _ => hs _ (List.mem_of_getElem? (i := 125) rfl)
    | 60, _ => hs _ (List.mem_of_getElem? (i := 126) rfl)
    | 61, _ => hs _ (List.mem_of_getElem? (i := 127) rfl)
    | 62, _ => hs _ (List.mem_of_getElem? (i := 128) rfl)
    | 63, _ => hs _ (List.mem_of_getElem? (i := 129) rfl)
    | n + 64, h => absurd h (by omega))) hA
theorem s_T177 {args : Array Value} {s : State} {A : Nat → Prop} (hs : ∀ c ∈ flatC (Jvm.Cond.and given_1 narrow_1), c.before args s = true) (hA : ∀ a : Nat, a < s.heap.size → ¬ A a) : ∃ t : Nat, (Term.static "NoiseEngine$Hmac" "COUNTERS" "[B").eval args s none [] s = some (.ref t) ∧ va_T .byte t 2 (fun j => .int (mm_tab 177 j)) A s s.heap :=
  va_Tof (by decide) (hs _ (List.mem_of_getElem? (i := 136) rfl)) (va_eqt (hs _ (List.mem_of_getElem? (i := 137) rfl))) (fun j hj => va_eqt (match j, hj with
    | 0, _ => hs _ (List.mem_of_getElem? (i := 138) rfl)
    | 1, _ => hs _ (List.mem_of_getElem? (i := 139) rfl)
    | n + 2, h => absurd h (by omega))) hA
theorem s_T178 {args : Array Value} {s : State} {A : Nat → Prop} (hs : ∀ c ∈ flatC (Jvm.Cond.and given_1 narrow_1), c.before args s = true) (hA : ∀ a : Nat, a < s.heap.size → ¬ A a) : ∃ t : Nat, (Term.static "NoiseEngine$CipherState" "NOTHING" "[B").eval args s none [] s = some (.ref t) ∧ va_T .byte t 0 (fun j => .int (mm_tab 178 j)) A s s.heap :=
  va_Tof (by decide) (hs _ (List.mem_of_getElem? (i := 141) rfl)) (va_eqt (hs _ (List.mem_of_getElem? (i := 142) rfl))) (fun j hj => va_eqt (match j, hj with
    | n + 0, h => absurd h (by omega))) hA
theorem s_T179 {args : Array Value} {s : State} {A : Nat → Prop} (hs : ∀ c ∈ flatC (Jvm.Cond.and given_1 narrow_1), c.before args s = true) (hA : ∀ a : Nat, a < s.heap.size → ¬ A a) : ∃ t : Nat, (Term.static "NoiseEngine$CipherState" "ZEROS" "[B").eval args s none [] s = some (.ref t) ∧ va_T .byte t 32 (fun j => .int (mm_tab 179 j)) A s s.heap :=
  va_Tof (by decide) (hs _ (List.mem_of_getElem? (i := 150) rfl)) (va_eqt (hs _ (List.mem_of_getElem? (i := 151) rfl))) (fun j hj => va_eqt (match j, hj with
    | 0, _ => hs _ (List.mem_of_getElem? (i := 152) rfl)
    | 1, _ => hs _ (List.mem_of_getElem? (i := 153) rfl)
    | 2, _ => hs _ (List.mem_of_getElem? (i := 154) rfl)
    | 3, _ => hs _ (List.mem_of_getElem? (i := 155) rfl)
    | 4, _ => hs _ (List.mem_of_getElem? (i := 156) rfl)
    | 5, _ => hs _ (List.mem_of_getElem? (i := 157) rfl)
    | 6, _ => hs _ (List.mem_of_getElem? (i := 158) rfl)
    | 7, _ => hs _ (List.mem_of_getElem? (i := 159) rfl)
    | 8, _ => hs _ (List.mem_of_getElem? (i := 160) rfl)
    | 9, _ => hs _ (List.mem_of_getElem? (i := 161) rfl)
    | 10, _ => hs _ (List.mem_of_getElem? (i := 162) rfl)
    | 11, _ => hs _ (List.mem_of_getElem? (i := 163) rfl)
    | 12, _ => hs _ (List.mem_of_getElem? (i := 164) rfl)
    | 13, _ => hs _ (List.mem_of_getElem? (i := 165) rfl)
    | 14, _ => hs _ (List.mem_of_getElem? (i := 166) rfl)
    | 15, _ => hs _ (List.mem_of_getElem? (i := 167) rfl)
    | 16, _ => hs _ (List.mem_of_getElem? (i := 168) rfl)
    | 17, _ => hs _ (List.mem_of_getElem? (i := 169) rfl)
    | 18, _ => hs _ (List.mem_of_getElem? (i := 170) rfl)
    | 19, _ => hs _ (List.mem_of_getElem? (i := 171) rfl)
    | 20, _ => hs _ (List.mem_of_getElem? (i := 172) rfl)
    | 21, _ => hs _ (List.mem_of_getElem? (i := 173) rfl)
    | 22, _ => hs _ (List.mem_of_getElem? (i := 174) rfl)
    | 23, _ => hs _ (List.mem_of_getElem? (i := 175) rfl)
    | 24, _ => hs _ (List.mem_of_getElem? (i := 176) rfl)
    | 25, _ => hs _ (List.mem_of_getElem? (i := 177) rfl)
    | 26, _ => hs _ (List.mem_of_getElem? (i := 178) rfl)
    | 27, _ => hs _ (List.mem_of_getElem? (i := 179) rfl)
    | 28, _ => hs _ (List.mem_of_getElem? (i := 180) rfl)
    | 29, _ => hs _ (List.mem_of_getElem? (i := 181) rfl)
    | 30, _ => hs _ (List.mem_of_getElem? (i := 182) rfl)
    | 31, _ => hs _ (List.mem_of_getElem? (i := 183) rfl)
    | n + 32, h => absurd h (by omega))) hA
theorem s_T180 {args : Array Value} {s : State} {A : Nat → Prop} (hs : ∀ c ∈ flatC (Jvm.Cond.and given_1 narrow_1), c.before args s = true) (hA : ∀ a : Nat, a < s.heap.size → ¬ A a) : ∃ t : Nat, (Term.static "NoiseEngine$Session" "SHORTEST" "[I").eval args s none [] s = some (.ref t) ∧ va_T .int t 3 (fun j => .int (mm_tab 180 j)) A s s.heap :=
  va_Tof (by decide) (hs _ (List.mem_of_getElem? (i := 144) rfl)) (va_eqt (hs _ (List.mem_of_getElem? (i := 145) rfl))) (fun j hj => va_eqt (match j, hj with
    | 0, _ => hs _ (List.mem_of_getElem? (i := 146) rfl)
    | 1, _ => hs _ (List.mem_of_getElem? (i := 147) rfl)
    | 2, _ => hs _ (List.mem_of_getElem? (i := 148) rfl)
    | n + 3, h => absurd h (by omega))) hA
theorem s_S {args : Array Value} {s : State} {A : Nat → Prop} (hs : ∀ c ∈ flatC (Jvm.Cond.and given_1 narrow_1), c.before args s = true) (hA : ∀ a : Nat, a < s.heap.size → ¬ A a) : ∃ aK aV : Nat, vk_S 1 [32] [mm_txt] (fun _ => aK) (fun _ => aV) A s s.heap ∧ (Term.string "NoiseEngine$SymmetricState" 43).eval args s none [] s = some (.ref aK) := by
  obtain ⟨adK, adV, h1, h2⟩ := vk_Sof (args := args) (s := s) (N := 1) (tm := fun _ => Term.string "NoiseEngine$SymmetricState" 43) (len := [32]) (byt := [mm_txt]) (A := A) (fun i hi => by obtain rfl : i = 0 := (by omega); decide)
    (fun i hi => hs _ (List.mem_of_getElem? (i := 184) rfl)) (fun i hi => hs _ (List.mem_of_getElem? (i := 185) rfl)) (fun i hi => hs _ (List.mem_of_getElem? (i := 186) rfl)) (fun i hi => by obtain rfl : i = 0 := (by omega); exact hs _ (List.mem_of_getElem? (i := 187) rfl)) (fun i hi j hj => by
      obtain rfl : i = 0 := (by omega)
      match j, hj with
      | 0, _ => exact hs _ (List.mem_of_getElem? (i := 188) rfl)
      | 1, _ => exact hs _ (List.mem_of_getElem? (i := 189) rfl)
      | 2, _ => exact hs _ (List.mem_of_getElem? (i := 190) rfl)
      | 3, _ => exact hs _ (List.mem_of_getElem? (i := 191) rfl)
      | 4, _ => exact hs _ (List.mem_of_getElem? (i := 192) rfl)
      | 5, _ => exact hs _ (List.mem_of_getElem? (i := 193) rfl)
      | 6, _ => exact hs _ (List.mem_of_getElem? (i := 194) rfl)
      | 7, _ => exact hs _ (List.mem_of_getElem? (i := 195) rfl)
      | 8, _ => exact hs _ (List.mem_of_getElem? (i := 196) rfl)
      | 9, _ => exact hs _ (List.mem_of_getElem? (i := 197) rfl)
      | 10, _ => exact hs _ (List.mem_of_getElem? (i := 198) rfl)
      | 11, _ => exact hs _ (List.mem_of_getElem? (i := 199) rfl)
      | 12, _ => exact hs _ (List.mem_of_getElem? (i := 200) rfl)
      | 13, _ => exact hs _ (List.mem_of_getElem? (i := 201) rfl)
      | 14, _ => exact hs _ (List.mem_of_getElem? (i := 202) rfl)
      | 15, _ => exact hs _ (List.mem_of_getElem? (i := 203) rfl)
      | 16, _ => exact hs _ (List.mem_of_getElem? (i := 204) rfl)
      | 17, _ => exact hs _ (List.mem_of_getElem? (i := 205) rfl)
      | 18, _ => exact hs _ (List.mem_of_getElem? (i := 206) rfl)
      | 19, _ => exact hs _ (List.mem_of_getElem? (i := 207) rfl)
      | 20, _ => exact hs _ (List.mem_of_getElem? (i := 208) rfl)
      | 21, _ => exact hs _ (List.mem_of_getElem? (i := 209) rfl)
      | 22, _ => exact hs _ (List.mem_of_getElem? (i := 210) rfl)
      | 23, _ => exact hs _ (List.mem_of_getElem? (i := 211) rfl)
      | 24, _ => exact hs _ (List.mem_of_getElem? (i := 212) rfl)
      | 25, _ => exact hs _ (List.mem_of_getElem? (i := 213) rfl)
      | 26, _ => exact hs _ (List.mem_of_getElem? (i := 214) rfl)
      | 27, _ => exact hs _ (List.mem_of_getElem? (i := 215) rfl)
      | 28, _ => exact hs _ (List.mem_of_getElem? (i := 216) rfl)
      | 29, _ => exact hs _ (List.mem_of_getElem? (i := 217) rfl)
      | 30, _ => exact hs _ (List.mem_of_getElem? (i := 218) rfl)
      | 31, _ => exact hs _ (List.mem_of_getElem? (i := 219) rfl)
      | n + 32, h => exact absurd h (by simp)) (fun i j hi hj h => absurd (show i = j by omega) h) hA
  exact ⟨adK 0, adV 0, ⟨fun i hi => by obtain rfl : i = 0 := (by omega); exact h1.1 0 (by omega), fun i j hi hj _ => by omega⟩, h2 0 (by omega)⟩
set_option maxRecDepth 100000 in
theorem s_world {args : Array Value} {s : State} (hts : ∀ w ∈ lw_tbl, w.before args s = true) (hgv : (Jvm.Cond.and given_1 narrow_1).before args s = true) : ∃ (D : va_G) (r : Nat → Nat), va_K D vwCl [] s ∧ mm_R s.heap.size r ∧ (∀ k, k < 173 → r k = s.heap.size + k) ∧ mm_Z s.heap.size r s s.heap ∧ mm_N r s ∧ n_N s ∧ ∀ k, 173 ≤ k → k < 181 → mm_at D r mm_M1 s s.heap k := by
  have hs := flat_of_before _ hgv
  have hA : ∀ a : Nat, a < s.heap.size → ¬ s.heap.size ≤ a := fun a h => Nat.not_le.mpr h
  obtain ⟨D, hK⟩ := s_K (fun w h => hts w (i_law w h))
  obtain ⟨t173, e173, h173⟩ := s_T173 (A := fun q => s.heap.size ≤ q) hs hA
  obtain ⟨t174, e174, h174⟩ := s_T174 (A := fun q => s.heap.size ≤ q) hs hA
  obtain ⟨t175, e175, h175⟩ := s_T175 (A := fun q => s.heap.size ≤ q) hs hA
  obtain ⟨t176, e176, h176⟩ := s_T176 (A := fun q => s.heap.size ≤ q) hs hA
  obtain ⟨t177, e177, h177⟩ := s_T177 (A := fun q => s.heap.size ≤ q) hs hA
  obtain ⟨t178, e178, h178⟩ := s_T178 (A := fun q => s.heap.size ≤ q) hs hA
  obtain ⟨t179, e179, h179⟩ := s_T179 (A := fun q => s.heap.size ≤ q) hs hA
  obtain ⟨t180, e180, h180⟩ := s_T180 (A := fun q => s.heap.size ≤ q) hs hA
  obtain ⟨aK, aV, hS, eS⟩ := s_S (A := fun q => s.heap.size ≤ q) hs hA
  have lt : ∀ {ty : FieldType} {t n : Nat} {f : Nat → Value}, va_T ty t n f (fun q => s.heap.size ≤ q) s s.heap → t < s.heap.size := fun h => Nat.not_le.mp h.choose_spec.2.2.2.2.2.2
  refine ⟨D, (l_r s.heap.size [t173, t174, t175, t176, t177, t178, t179, t180, aV, aK]), hK, ⟨fun k hk => ?_, fun k h1 h2 => ?_, fun j k hj hk e => ?_⟩, fun k hk => if_pos hk, ⟨?_, ?_, ?_, ?_, ?_, ?_, ?_, ?_, ?_, ?_, hS⟩, ⟨?_, ?_, ?_, ?_⟩, ⟨?_, ?_, ?_, ?_, ?_, ?_, ?_, ?_⟩, fun k h1 h2 => ?_⟩
  · show _ ≤ if k < 173 then _ else _
    rw [if_pos hk]; exact Nat.le_add_right _ _
  · rcases (show k = 173 ∨ k = 174 ∨ k = 175 ∨ k = 176 ∨ k = 177 ∨ k = 178 ∨ k = 179 ∨ k = 180 by omega) with rfl | rfl | rfl | rfl | rfl | rfl | rfl | rfl
    · exact lt h173
    · exact lt h174
    · exact lt h175
    · exact lt h176
    · exact lt h177
    · exact lt h178
    · exact lt h179
    · exact lt h180
  · have e : (if j < 173 then s.heap.size + j else _) = if k < 173 then s.heap.size + k else _ := e
    rw [if_pos hj, if_pos hk] at e
    exact Nat.add_left_cancel e
  · exact va_Zref (hts _ (j_2 (List.mem_of_getElem? (i := 113) rfl))) (hts _ (j_1 (List.mem_of_getElem? (i := 3) rfl))) e173 hA
  · exact va_Zref (hts _ (j_2 (List.mem_of_getElem? (i := 128) rfl))) (hts _ (j_1 (List.mem_of_getElem? (i := 3) rfl))) e174 hA
  · exact va_Zref (hts _ (j_2 (List.mem_of_getElem? (i := 200) rfl))) (hts _ (j_1 (List.mem_of_getElem? (i := 4) rfl))) e175 hA
  · exact va_Zref (hts _ (j_2 (List.mem_of_getElem? (i := 221) rfl))) (hts _ (j_1 (List.mem_of_getElem? (i := 4) rfl))) e176 hA
  · exact va_Zref (hts _ (j_3 (List.mem_of_getElem? (i := 201) rfl))) (hts _ (j_1 (List.mem_of_getElem? (i := 5) rfl))) e177 hA
  · exact va_Zref (hts _ (j_3 (List.mem_of_getElem? (i := 224) rfl))) (hts _ (j_1 (List.mem_of_getElem? (i := 10) rfl))) e178 hA
  · exact va_Zref (hts _ (j_4 (List.mem_of_getElem? (i := 59) rfl))) (hts _ (j_1 (List.mem_of_getElem? (i := 10) rfl))) e179 hA
  · exact va_Zref (hts _ (j_3 (List.mem_of_getElem? (i := 238) rfl))) (hts _ (j_1 (List.mem_of_getElem? (i := 11) rfl))) e180 hA
  · exact va_Zof (hts _ (j_3 (List.mem_of_getElem? (i := 128) rfl))) (hts _ (j_1 (List.mem_of_getElem? (i := 16) rfl))) (va_eqi (hs _ (List.mem_of_getElem? (i := 130) rfl))) hA
  · exact va_Zqof (hts _ (j_3 (List.mem_of_getElem? (i := 136) rfl))) (hts _ (j_1 (List.mem_of_getElem? (i := 18) rfl))) (hs _ (List.mem_of_getElem? (i := 131) rfl)) hA
  · exact va_Nw.of rfl (hts _ (j_3 (List.mem_of_getElem? (i := 223) rfl)))
  · exact va_Nw.of rfl (hts _ (j_4 (List.mem_of_getElem? (i := 33) rfl)))
  · exact vk_R.of (hts _ (j_3 (List.mem_of_getElem? (i := 118) rfl))) eS
  · exact vk_R.of (hts _ (j_6 (List.mem_of_getElem? (i := 51) rfl))) (va_eqR (hs _ (List.mem_of_getElem? (i := 256) rfl)) eS)
  · exact va_Nw.of rfl (hts _ (j_1 (List.mem_of_getElem? (i := 32) rfl)))
  · exact va_Nw.of rfl (hts _ (j_1 (List.mem_of_getElem? (i := 38) rfl)))
  · exact va_Nw.of rfl (hts _ (j_1 (List.mem_of_getElem? (i := 74) rfl)))
  · exact va_Nw.of rfl (hts _ (j_1 (List.mem_of_getElem? (i := 116) rfl)))
  · exact va_Nw.of rfl (hts _ (j_1 (List.mem_of_getElem? (i := 122) rfl)))
  · exact va_Nw.of rfl (hts _ (j_1 (List.mem_of_getElem? (i := 139) rfl)))
  · exact va_AO.of (hts _ (j_1 (List.mem_of_getElem? (i := 192) rfl)))
  · exact (hts _ (j_1 (List.mem_of_getElem? (i := 29) rfl)) : (Cond.arrayOver (.array .byte)).before args s = true)
  · rcases (show k = 173 ∨ k = 174 ∨ k = 175 ∨ k = 176 ∨ k = 177 ∨ k = 178 ∨ k = 179 ∨ k = 180 by omega) with rfl | rfl | rfl | rfl | rfl | rfl | rfl | rfl
    · exact s_at (ty := .byte) (n := 32) (by decide) rfl (Or.inl rfl) (show ∀ j, j < 32 → (mm_m0 173 j).toInt8.toInt32 = mm_m0 173 j by decide) h173
    · exact s_at (ty := .int) (n := 10) (by decide) rfl (Or.inr rfl) trivial h174
    · exact s_at (ty := .int) (n := 8) (by decide) rfl (Or.inr rfl) trivial h175
    · exact s_at (ty := .int) (n := 64) (by decide) rfl (Or.inr rfl) trivial h176
    · exact s_at (ty := .byte) (n := 2) (by decide) rfl (Or.inl rfl) (show ∀ j, j < 2 → (mm_m0 177 j).toInt8.toInt32 = mm_m0 177 j by decide) h177
    · exact s_at (ty := .byte) (n := 0) (by decide) rfl (Or.inl rfl) (show ∀ j, j < 0 → (mm_m0 178 j).toInt8.toInt32 = mm_m0 178 j by decide) h178
    · exact s_at (ty := .byte) (n := 32) (by decide) rfl (Or.inl rfl) (show ∀ j, j < 32 → (mm_m0 179 j).toInt8.toInt32 = mm_m0 179 j by decide) h179
    · exact s_at (ty := .int) (n := 3) (by decide) rfl (Or.inr rfl) trivial h180
theorem s_z (k j : Nat) (h : n_z k) : mm_M1.1 k j = 0 := h.at j
set_option maxRecDepth 100000 in
theorem s_pub : pubR mm_M1 0 0 := by
  refine ⟨⟨by decide, by decide⟩, ⟨by decide, by decide, by decide, by decide⟩, fun j h => absurd h (by omega), fun j h => absurd h (by omega), fun k hk j hj => ?_, ⟨⟨⟨⟨fun j _ => rfl, fun j _ => rfl⟩, by decide, by decide⟩, fun j _ => rfl⟩, ?_⟩, ⟨⟨fun j _ => rfl, fun j _ => rfl⟩, fun j _ _ => s_z 146 j (by unfold n_z; omega)⟩, fun s hs => Or.inl ⟨?_, s_z 159 s (by unfold n_z; omega)⟩⟩
  · rw [s_z 122 _ (by unfold n_z; omega), s_z (4 + k) _ (by unfold n_z; omega)]
  · show ∀ j, j < 32 → mm_m0 179 j = 0
    decide
  · rcases (show s = 0 ∨ s = 1 ∨ s = 2 ∨ s = 3 by omega) with rfl | rfl | rfl | rfl <;> decide
