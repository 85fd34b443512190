/-! THE CLAIM OUT OF ONE WALK OF THE LAW'S BODY. Your part is whole_start (and what it stands on); all else here is the same for every law, but numbers. -/
def R_law : String := "NoiseEngineLaw"
def lw_P (b : Addr) (xs : List Int32) (args : Array Value) (s : State) : Prop := args = #[.ref b] ∧ s.IntsAt b xs ∧ xs.length ≤ 3072 ∧ (Jvm.Cond.and given_1 narrow_1).before args s = true
def lw_Q (_ : Array Value) (s : State) (o : Outcome) (t : State) : Prop := o = .returned (some (.int 1)) ∧ Framed s o t [] 600000 7302250
def lw_Z (below : List Frame) (a : Array Value) (s : State) : State → Prop := fun t => ∃ o, t.status = .running ∧ Ended t below o ∧ lw_Q a s o t
/-- the law's own end, with 1 on the stack, nothing written that was there before, its room as the claim has it -/
theorem lw_ret {p : Program} {l : Launch} {e : Env} {s : State} {m : MethodId} {below : List Frame} {meth : Method} {c : Code} {b : Nat} (hx : p.tables.exec = Jvm.exec) (hb : c.code = code) (hr : meth.sig.returnType = ret) (hlocks : meth.locks = false) {pc : Nat} {H : Heap} {ls : Array Slot} (hdg : decode code pc = .ok (.ireturn, 1)) : W p l e room_1 s m #[Value.ref b] below meth c H [] 600000 7302250 (lw_Z below #[Value.ref b] s) (F0 m pc ls [.int 1]) := by
  intro T hT X
  obtain ⟨fs, hret, hrun, hended, hW, hframe⟩ := X.leave (v := some (.int 1)) (hlocks := hlocks) (fun h => by rw [hr] at h; cases h)
  have hmeth' : T.vm.method? m = some meth := X.method'
  refine ⟨T.setFrames fs, ?_, .returned (some (.int 1)), hrun, hended, rfl, ⟨_, rfl⟩, hW, hframe⟩
  jvm_step X.here [X.here.top, hx, hb, hdg, hmeth', hr, ret, narrow_b1]
  (try refine ⟨rfl, ?_⟩); (try refine ⟨rfl, ?_⟩)
  first | (intro acts; rw [hret _ acts rfl rfl rfl]) | rw [hret _ _ rfl rfl rfl]
  exact Steps.refl _
/-- what holds at the law's entry: the machine, the code, the tables' words (any of lw_tbl by 'hts w (by decide +kernel)'), the script of L ints xs at the cell b, what the Statement gives of the start (any of its parts by flat_of_before) -/
def lw_At (p : Program) (s : State) (m : MethodId) (meth : Method) (c : Code) (b L : Nat) (xs : Nat → Int32) : Prop :=
  p.tables.exec = Jvm.exec ∧ c.code = code ∧ meth.sig.returnType = ret ∧ c.maxLocals = 4 ∧ s.vm.findClass R_law = some m.cls ∧ (∀ w ∈ lw_tbl, w.before #[Value.ref b] s = true) ∧ va_X b L xs s s.heap ∧ b < s.heap.size ∧ meth.locks = false ∧ (Jvm.Cond.and given_1 narrow_1).before #[Value.ref b] s = true
theorem l_six : ∀ a : Fin 6, ∀ b : Fin 6, nI a.1 - 6 < nI b.1 := by decide
theorem l_sub {L : Nat} (h : 6 ≤ L) : nI L - 6 = nI (L - 6) := by
  obtain ⟨k, rfl⟩ : ∃ k, L = k + 6 := ⟨L - 6, by omega⟩
  rw [← nI_add k 6, Nat.add_sub_cancel]
  exact Int32.add_sub_cancel _ _
theorem l_le {L i : Nat} (hL : L ≤ 3072) (hi : i ≤ L) (h : ¬ nI L - 6 < nI i) : i + 6 ≤ L := by
  rcases Nat.lt_or_ge L 6 with q | q
  · exact absurd (l_six ⟨L, q⟩ ⟨i, by omega⟩) h
  · rw [l_sub q] at h
    rcases Nat.lt_or_ge (L - 6) i with z | z
    · exact absurd ((nI_ltI (by omega) (by omega)).mpr z) h
    · omega
section LW2
variable {p : Program} {l : Launch} {e : Env} {s : State} {m : MethodId} {below : List Frame} {meth : Method} {c : Code} {D : va_G} {r : Nat → Nat} {b L : Nat} {xs : Nat → Int32}
set_option maxHeartbeats 4000000 in
set_option maxRecDepth 100000 in
theorem l_loop (C : l_C p c m meth s D r b L xs) : ∀ (n i : Nat), i ≤ L → L + 1 ≤ i + n → ∀ (M : mm_M) (ts rs : Nat) (H : Heap) (locs : List Loc) (ls : Array Slot), pubR M ts rs → mm_W D s.heap.size r M s H locs → l_L ls r b i → W p l e room_1 s m #[Value.ref b] below meth c H locs 173 13250 (lw_Z below #[Value.ref b] s) (F0 m 18 ls []) := by
  intro n
  induction n with
  | zero =>
    intro i h1 h2
    exact absurd h2 (by omega)
  | succ n ih =>
    intro i hi hin M ts rs H locs ls hp w hl
    have hL := C.2.2.2
    refine lv_iload_n C.1.1 C.1.2.1 dL_law_18 rfl (lv_at hl 0 rfl) ?_
    refine lv_aload_n C.1.1 C.1.2.1 dL_law_19 rfl (lv_at hl 3 rfl) ?_
    refine va_slen C.1.1 C.1.2.1 C.2.1 C.2.2.1 (Nat.not_le.mpr C.2.2.1) w.2 dL_law_20 ?_
    refine lv_bipush (v := 6) C.1.1 C.1.2.1 dL_law_21 (by decide) ?_
    refine lv_isub C.1.1 C.1.2.1 dL_law_23 ?_
    refine lv_icmp_gt (tgt := 942) C.1.1 C.1.2.1 dL_law_24 (by decide) (fun _ => ?_) (fun c0 => ?_)
    · refine lv_iconst (v := 1) C.1.1 C.1.2.1 dL_law_942 (by decide) ?_
      refine va_forget (fun q hq => w.2.2.2 q hq) ?_
      refine W.widen (k := 600000) (n := 7302250) (by decide) (by decide) ?_
      exact lw_ret C.1.1 C.1.2.1 C.1.2.2.2.2.2.2.2.2.2.1 C.1.2.2.2.2.2.2.2.2.1 dL_law_943
    · have hsix := l_le hL hi c0
      have kk : l_K p l e s m below meth c 173 13250 (lw_Z below #[Value.ref b] s) D r b ls := fun M' ts' rs' H' locs' hp' w' => by
        refine lv_iinc (v := nI (i + 6)) (lv' := [(3, .int (nI (i + 6))), (2, .ref (r 117)), (1, .ref (r 0)), (0, .ref b)]) C.1.1 C.1.2.1 dL_law_936 hl (k := 0) rfl (by rw [show Int32.ofInt 6 = nI 6 by decide]; exact nI_add i 6) (by decide) rfl (fun ls' hl' => ?_)
        refine lv_goto (tgt := 18) C.1.1 C.1.2.1 dL_law_939 (by decide) ?_
        exact ih (i + 6) hsix (by omega) M' ts' rs' H' locs' ls' hp' w' hl'
      have hf : 173 ≤ room_1.cells ∧ 13250 ≤ room_1.slots := ⟨by decide, by decide⟩
      refine lv_aload_n C.1.1 C.1.2.1 dL_law_27 rfl (lv_at hl 3 rfl) ?_
      refine lv_iload_n C.1.1 C.1.2.1 dL_law_28 rfl (lv_at hl 0 rfl) ?_
      refine va_sld C.1.1 C.1.2.1 C.2.1 C.2.2.1 (Nat.not_le.mpr C.2.2.1) w.2 (vp_in_nI (by omega) (by omega)) dL_law_29 ?_
      refine lv_bipush (v := 31) C.1.1 C.1.2.1 dL_law_30 (by decide) ?_
      refine lv_iand C.1.1 C.1.2.1 dL_law_32 ?_
      refine lv_topi (fun x _ => ?_)
      by_cases h0 : x = 0
      · exact lv_tableIn (off := 95) (tgt := 128) C.1.1 C.1.2.1 dL_law_33 (by rw [h0]; decide) (by rw [h0]; decide) (by rw [h0]; rfl) (by decide) (l_k0 C w hl hsix hp hf kk)
      by_cases h1 : x = 1
      · exact lv_tableIn (off := 158) (tgt := 191) C.1.1 C.1.2.1 dL_law_33 (by rw [h1]; decide) (by rw [h1]; decide) (by rw [h1]; rfl) (by decide) (l_k1 C w hl hsix hp hf kk)
      by_cases h2 : x = 2
      · exact lv_tableIn (off := 171) (tgt := 204) C.1.1 C.1.2.1 dL_law_33 (by rw [h2]; decide) (by rw [h2]; decide) (by rw [h2]; rfl) (by decide) (l_k2 C w hl hsix hp hf kk)
      by_cases h3 : x = 3
      · exact lv_tableIn (off := 204) (tgt := 237) C.1.1 C.1.2.1 dL_law_33 (by rw [h3]; decide) (by rw [h3]; decide) (by rw [h3]; rfl) (by decide) (l_k3 C w hl hsix hp hf kk)
      by_cases h4 : x = 4
      · exact lv_tableIn (off := 227) (tgt := 260) C.1.1 C.1.2.1 dL_law_33 (by rw [h4]; decide) (by rw [h4]; decide) (by rw [h4]; rfl) (by decide) (l_k4 C w hl hsix hp hf kk)
      by_cases h5 : x = 5
      · exact lv_tableIn (off := 250) (tgt := 283) C.1.1 C.1.2.1 dL_law_33 (by rw [h5]; decide) (by rw [h5]; decide) (by rw [h5]; rfl) (by decide) (l_k5 C w hl hsix hp hf kk)
      by_cases h6 : x = 6
      · exact lv_tableIn (off := 299) (tgt := 332) C.1.1 C.1.2.1 dL_law_33 (by rw [h6]; decide) (by rw [h6]; decide) (by rw [h6]; rfl) (by decide) (l_k6 C w hl hsix hp hf kk)
      by_cases h7 : x = 7
      · exact lv_tableIn (off := 322) (tgt := 355) C.1.1 C.1.2.1 dL_law_33 (by rw [h7]; decide) (by rw [h7]; decide) (by rw [h7]; rfl) (by decide) (l_k7 C w hl hsix hp hf kk)
      by_cases h8 : x = 8
      · exact lv_tableIn (off := 355) (tgt := 388) C.1.1 C.1.2.1 dL_law_33 (by rw [h8]; decide) (by rw [h8]; decide) (by rw [h8]; rfl) (by decide) (l_k8 C w hl hsix hp hf kk)
      by_cases h9 : x = 9
      · exact lv_tableIn (off := 438) (tgt := 471) C.1.1 C.1.2.1 dL_law_33 (by rw [h9]; decide) (by rw [h9]; decide) (by rw [h9]; rfl) (by decide) (l_k9 C w hl hsix hp hf kk)
      by_cases h10 : x = 10
      · exact lv_tableIn (off := 521) (tgt := 554) C.1.1 C.1.2.1 dL_law_33 (by rw [h10]; decide) (by rw [h10]; decide) (by rw [h10]; rfl) (by decide) (l_k10 C w hl hsix hp hf kk)
      by_cases h11 : x = 11
      · exact lv_tableIn (off := 600) (tgt := 633) C.1.1 C.1.2.1 dL_law_33 (by rw [h11]; decide) (by rw [h11]; decide) (by rw [h11]; rfl) (by decide) (l_k11 C w hl hsix hp hf kk)
      by_cases h12 : x = 12
      · exact lv_tableIn (off := 633) (tgt := 666) C.1.1 C.1.2.1 dL_law_33 (by rw [h12]; decide) (by rw [h12]; decide) (by rw [h12]; rfl) (by decide) (l_k12 C w hl hsix hp hf kk)
      by_cases h13 : x = 13
      · exact lv_tableIn (off := 666) (tgt := 699) C.1.1 C.1.2.1 dL_law_33 (by rw [h13]; decide) (by rw [h13]; decide) (by rw [h13]; rfl) (by decide) (l_k13 C w hl hsix hp hf kk)
      by_cases h14 : x = 14
      · exact lv_tableIn (off := 699) (tgt := 732) C.1.1 C.1.2.1 dL_law_33 (by rw [h14]; decide) (by rw [h14]; decide) (by rw [h14]; rfl) (by decide) (l_k14 C w hl hsix hp hf kk)
      by_cases h15 : x = 15
      · exact lv_tableIn (off := 732) (tgt := 765) C.1.1 C.1.2.1 dL_law_33 (by rw [h15]; decide) (by rw [h15]; decide) (by rw [h15]; rfl) (by decide) (l_k15 C w hl hsix hp hf kk)
      by_cases h16 : x = 16
      · exact lv_tableIn (off := 781) (tgt := 814) C.1.1 C.1.2.1 dL_law_33 (by rw [h16]; decide) (by rw [h16]; decide) (by rw [h16]; rfl) (by decide) (l_k16 C w hl hsix hp hf kk)
      by_cases h17 : x = 17
      · exact lv_tableIn (off := 814) (tgt := 847) C.1.1 C.1.2.1 dL_law_33 (by rw [h17]; decide) (by rw [h17]; decide) (by rw [h17]; rfl) (by decide) (l_k17 C w hl hsix hp hf kk)
      by_cases h18 : x = 18
      · exact lv_tableIn (off := 857) (tgt := 890) C.1.1 C.1.2.1 dL_law_33 (by rw [h18]; decide) (by rw [h18]; decide) (by rw [h18]; rfl) (by decide) (l_k18 C w hl hsix hp hf kk)
      by_cases h19 : x = 19
      · exact lv_tableIn (off := 880) (tgt := 913) C.1.1 C.1.2.1 dL_law_33 (by rw [h19]; decide) (by rw [h19]; decide) (by rw [h19]; rfl) (by decide) (l_k19 C w hl hsix hp hf kk)
      exact lv_tableOut (tgt := 936) C.1.1 C.1.2.1 dL_law_33 (by have n0 := lv_neT h0 (a := 0) rfl; have n1 := lv_neT h1 (a := 1) rfl; have n2 := lv_neT h2 (a := 2) rfl; have n3 := lv_neT h3 (a := 3) rfl; have n4 := lv_neT h4 (a := 4) rfl; have n5 := lv_neT h5 (a := 5) rfl; have n6 := lv_neT h6 (a := 6) rfl; have n7 := lv_neT h7 (a := 7) rfl; have n8 := lv_neT h8 (a := 8) rfl; have n9 := lv_neT h9 (a := 9) rfl; have n10 := lv_neT h10 (a := 10) rfl; have n11 := lv_neT h11 (a := 11) rfl; have n12 := lv_neT h12 (a := 12) rfl; have n13 := lv_neT h13 (a := 13) rfl; have n14 := lv_neT h14 (a := 14) rfl; have n15 := lv_neT h15 (a := 15) rfl; have n16 := lv_neT h16 (a := 16) rfl; have n17 := lv_neT h17 (a := 17) rfl; have n18 := lv_neT h18 (a := 18) rfl; have n19 := lv_neT h19 (a := 19) rfl; omega) (by decide) (kk M ts rs H locs hp w)
end LW2
