section NX
variable {p : Program} {l : Launch} {e : Env} {R : Room} {s : State} {m : MethodId} {args : Array Value} {below : List Frame} {meth : Method} {c : Code} {H : Heap} {locs : List Loc} {cells slots : Nat} {Q : State → Prop}
variable {cc : ByteArray} {nL pc : Nat} {own : String} {ls : Array Slot} {rest st : List Value} {D : va_G} {b0 : Nat} {r : Nat → Nat} {i k0 ci cur : Nat} {fs : List Value} {lv : List (Nat × Value)}
/-- new byte[8][32], the keys -/
theorem n_mna (C : n_C p c cc nL own m meth s args D b0 r) (w : n_W D b0 r i 0 ci fs 3 s H locs) {index : Nat} (hcl : Cond.classLink own index "[[B" ∈ wsL_law) (hf : cells + 9 ≤ R.cells ∧ slots + 264 ≤ R.slots) (hdg : decode cc pc = .ok (.multianewarray index 2, 4))
    (kk : ∀ H1 : Heap, n_W D b0 r i 0 ci fs 12 s H1 locs → W p l e R s m args below meth c H1 locs (cells + 9) (slots + 264) Q (F0 m (pc + 4) ls (.ref (r 3) :: rest))) : W p l e R s m args below meth c H locs cells slots Q (F0 m pc ls (.int 32 :: .int 8 :: rest)) := by
  obtain ⟨hx, hb, hml, hown, hts, hK, hlk, hret, hin, hr, hN⟩ := C
  obtain ⟨⟨w1, w2⟩, w3, w4, w5⟩ := w
  intro T hT Xs
  obtain ⟨vm₁, cA, comp, hAo, hAi, X', step⟩ := q_step Xs hx hown (hts _ hcl) hN.2.2.2.2.2.2.2 (hts _ n_ac_byte) (g := F0 m pc ls (.int 32 :: .int 8 :: rest)) rfl rfl (by rw [hb]; exact hdg) hf.1 hf.2
  have hTh : (T.setVm vm₁).heap = H := hT
  have f1 : (q_st cA comp (T.setVm vm₁) 8).heap.size = H.size + 1 + 8 := by rw [q_st_size, hTh]
  have f2 : (q_st cA comp (T.setVm vm₁) 8).heap[H.size]? = some (arrV cA 8 (fun j => if j < 8 then .ref (H.size + 1 + j) else .null)) := by
    have := q_st_out cA comp (T.setVm vm₁) 8
    rw [hTh] at this
    exact this
  have hold : ∀ x : Nat, x < H.size → (q_st cA comp (T.setVm vm₁) 8).heap[x]? = H[x]? := fun x hx => by
    rw [q_st_old cA comp (T.setVm vm₁) 8 (by rw [hTh]; exact hx), hTh]
  have hrow : ∀ j : Nat, j < 8 → (q_st cA comp (T.setVm vm₁) 8).heap[H.size + 1 + j]? = some (arrV comp 32 (fun _ => .int 0)) := fun j hj => by
    have := q_st_in cA comp (T.setVm vm₁) 8 hj
    rw [hTh] at this
    rw [this]
    exact congrArg some (arrV_new comp 32 (.int 0))
  generalize q_st cA comp (T.setVm vm₁) 8 = F at X' step f1 f2 hold hrow
  have key : n_W D b0 r i 0 ci fs 12 s F.heap locs := by
    refine ⟨⟨by rw [f1, w1], by omega⟩, w3.kept (hold _ w3.lt), fun k q1 q2 => ?_, ⟨Nat.le_trans w5.1 (by omega), fun x h1 h2 => (hold x (by have := w5.1; omega)).trans (w5.2.1 x h1 h2), w5.2.2⟩⟩
    by_cases hk : k < 3
    · exact (w4 k q1 hk).kept (hold _ (by rw [hr k (by omega), w1]; omega))
    · by_cases hk3 : k = 3
      · subst hk3
        have e0 : arrV cA 8 (fun j => if j < 8 then .ref (H.size + 1 + j) else .null) = arrV cA 8 (mm_av (.array .byte) r mm_M1 3) := arrV_c (fun j hj => by
          rw [if_pos hj]
          refine Eq.trans ?_ (mm_v3 (mm_key_ds j hj)).symm
          rw [hr (4 + j) (by omega), w1]
          rw [show b0 + 3 + 1 + j = b0 + (4 + j) from by omega])
        rw [e0, w1, ← hr 3 (by omega)] at f2
        refine n_G.of (by decide) (mm_at.ar (ty := .array .byte) (n := 8) (wr := true) rfl ⟨⟨_, f2, hAo 8 _, (fun q => by cases q), ?_, ?_, ?_, fun _ => ⟨cA, hAo, rfl⟩⟩, trivial, fun q => by cases q⟩)
        · rw [arrV_size]; exact Nat.le_refl _
        · rw [arrV_size]
        · intro j hj; exact arrV_read _ _ hj
      · obtain ⟨j, rfl⟩ : ∃ j, k = 4 + j := ⟨k - 4, by omega⟩
        have hz : n_z (4 + j) := by unfold n_z; omega
        have e1 := hrow j (by omega)
        rw [w1, show b0 + 3 + 1 + j = b0 + (4 + j) from by omega, ← hr (4 + j) (by omega)] at e1
        have e0 : mm_av .byte r mm_M1 (4 + j) = fun _ => .int 0 := funext fun x => congrArg Value.int (hz.at x)
        refine n_G.of (by omega) (mm_at.ar (mm_key j (by omega)) ⟨⟨_, e1, hAi 32 _, (fun q => by cases q), ?_, ?_, ?_, fun _ => ⟨comp, hAi, by rw [e0]⟩⟩, ?_, fun q => by cases q⟩)
        · rw [arrV_size]; exact Nat.le_refl _
        · rw [arrV_size]
        · intro x hx; rw [e0]; exact arrV_read _ _ hx
        · intro x hx
          show (mm_m0 (4 + j) x).toInt8.toInt32 = mm_m0 (4 + j) x
          rw [hz.at x]; decide
  obtain ⟨t', a1, b1⟩ := kk F.heap key F rfl X'
  refine ⟨t', step t' ?_, b1⟩
  rw [show T.heap.size = r 3 from by rw [hT, w1, hr 3 (by omega)]]
  exact a1
/-- new Session[4] -/
theorem n_anew (C : n_C p c cc nL own m meth s args D b0 r) (w : n_W D b0 r i 0 ci fs 42 s H locs) {index : Nat} (hcl : Cond.classLink own index "NoiseEngine$Session" ∈ wsL_law) (hf : cells + 1 ≤ R.cells ∧ slots + 4 ≤ R.slots) (hdg : decode cc pc = .ok (.anewarray index, 3))
    (kk : ∀ H1 : Heap, n_W D b0 r 0 0 ci fs 43 s H1 locs → W p l e R s m args below meth c H1 locs (cells + 1) (slots + 4) Q (F0 m (pc + 3) ls (.ref (r 42) :: rest))) : W p l e R s m args below meth c H locs cells slots Q (F0 m pc ls (.int 4 :: rest)) := by
  obtain ⟨hx, hb, hml, hown, hts, hK, hlk, hret, hin, hr, hN⟩ := C
  obtain ⟨⟨w1, w2⟩, w3, w4, w5⟩ := w
  have e4 : (4 : Int32).toNatClampNeg = 4 := by decide
  refine W.anew hx hb hown (hts _ hcl) (va_AO.use hN.2.2.2.2.2.2.1) rfl hdg rfl (by decide) (by decide) hf.1 (by rw [e4]; exact hf.2) fun cA kA comp g1 g2 g3 g4 => ?_
  rw [e4, arrV_new]
  generalize hH1 : H.push (arrV cA 4 (fun _ => .null)) = H1
  have z1 : H1.size = H.size + 1 := by rw [← hH1, Array.size_push]
  have e1 : H1[H.size]? = some (arrV cA 4 (fun _ => .null)) := by rw [← hH1, Array.getElem?_push_size]
  have o1 : ∀ q : Nat, q < H.size → H1[q]? = H[q]? := fun q hq => by rw [← hH1, Array.getElem?_push, if_neg (Nat.ne_of_lt hq)]
  have hAr : ArrOfT s cA (.object "NoiseEngine$Session") := fun N z => ⟨(fun k h => by cases h), kA, g2, comp, g3⟩
  rw [w1, ← hr 42 (by omega)] at e1
  have key : n_W D b0 r 0 0 ci fs 43 s H1 locs := by
    refine ⟨⟨by rw [z1, w1], by omega⟩, w3.kept (o1 _ w3.lt), fun k q1 q2 => ?_, ⟨Nat.le_trans w5.1 (by omega), fun x h1 h2 => (o1 x (by have := w5.1; omega)).trans (w5.2.1 x h1 h2), w5.2.2⟩⟩
    by_cases hk : k = 42
    · subst hk
      exact ⟨fun _ => ⟨cA, kA, comp, hAr, g2, g3, g4, e1.trans (congrArg some (arrV_c (fun j _ => by rw [if_neg (by omega)])))⟩, fun q => absurd rfl q⟩
    · exact n_G.of hk (n_at_kept ((w4 k q1 (by omega)).2 hk) (o1 _ (by rw [hr k (by omega), w1]; omega)))
  rw [w1, ← hr 42 (by omega)]
  exact kk H1 key
/-- a session goes into the row -/
theorem n_aast (C : n_C p c cc nL own m meth s args D b0 r) {q : Nat} (w : n_W D b0 r q 0 ci fs (49 + 17 * q + 17) s H locs) (hq : q < 4) (hdg : decode cc pc = .ok (.aastore, 1))
    (kk : ∀ (H1 : Heap) (locs1 : List Loc), n_W D b0 r (q + 1) 0 ci fs (49 + 17 * q + 17) s H1 locs1 → W p l e R s m args below meth c H1 locs1 cells slots Q (F0 m (pc + 1) ls rest)) : W p l e R s m args below meth c H locs cells slots Q (F0 m pc ls (.ref (r (49 + 17 * q)) :: .int (nI q) :: .ref (r 42) :: rest)) := by
  obtain ⟨hx, hb, hml, hown, hts, hK, hlk, hret, hin, hr, hN⟩ := C
  obtain ⟨⟨w1, w2⟩, w3, w4, w5⟩ := w
  obtain ⟨cA, kA, comp, g1, g2, g3, g4, g5⟩ := (w4 42 (by omega) (by omega)).1 rfl
  have hat := (w4 (49 + 17 * q) (by omega) (by omega)).2 (by omega)
  have hsh : mm_sh (49 + 17 * q) = .inr 6 := (mm_ses_of q hq).2.2.1
  unfold mm_at at hat
  rw [hsh] at hat
  obtain ⟨q', k1, ⟨cellV, v1, v2, v3, v4⟩, -⟩ := hat
  have hcls := (hK.1 6 (RX7, TX7, 12) rfl).2
  have hcomp : comp = D.1 6 := Option.some.inj (g4.symm.trans hcls.1)
  subst hcomp
  obtain ⟨kC, hkC, hkind⟩ := hcls.2
  refine W.aast hx hb g5 (fun q h => by cases h) (fun h => by cases h) g2 g3 rfl hkC ⟨nI_pos (by omega), by rw [nI_clamp (by omega), arrV_size]; exact hq⟩ v1 (fun q h => by rw [v3] at h; cases h) (by rw [v2]; exact hkC) (by rw [v2]; exact va_assign hcls) rfl rfl hdg fun H1 e z oq => ?_
  rw [nI_clamp (by omega), arrV_store] at e
  have oq : ∀ q : Nat, q ≠ r 42 → H1[q]? = H[q]? := oq
  refine kk H1 _ ⟨⟨by rw [z]; exact w1, w2⟩, w3.kept (oq _ (by rw [hr 0 (by omega), hr 42 (by omega)]; omega)), fun k q1 q2 => ?_, w5.put z oq (by rw [hr 42 (by omega)]; omega)⟩
  by_cases hk : k = 42
  · subst hk
    refine ⟨fun _ => ⟨cA, kA, _, g1, g2, g3, g4, e.trans (congrArg some (arrV_c (fun j _ => ?_)))⟩, fun q => absurd rfl q⟩
    unfold updV
    by_cases d : j = q
    · rw [if_pos d, if_pos (by omega), d]
    · rw [if_neg d]
      try dsimp only
      by_cases f : j < q
      · rw [if_pos f, if_pos (by omega)]
      · rw [if_neg f, if_neg (by omega)]
  · exact n_G.of hk (n_at_kept ((w4 k q1 q2).2 hk) (oq _ (by rw [hr k (by omega), hr 42 (by omega)]; omega)))
theorem n_sub12 (h : mm_at D r mm_M1 s H 12) : n_O D r H 12 8 [.ref (r 13), .ref (r 23), .ref (r 27), .ref (r 31)] := by
  unfold mm_at at h
  rw [show mm_sh 12 = .inr 8 from rfl] at h
  obtain ⟨q, h1, h2, -⟩ := h
  cases h1
  refine ⟨_, rfl, h2.to (fun j hj => ?_)⟩
  have hj : j < 4 := hj
  rcases (show j = 0 ∨ j = 1 ∨ j = 2 ∨ j = 3 by omega) with rfl | rfl | rfl | rfl <;> rfl
end NX
/-! an array of numbers that its constructor fills -/
def n_ff (tab : Nat → Int32) (t j : Nat) : Int32 := if j < t then tab j else 0
def n_V (D : va_G) (b0 : Nat) (r : Nat → Nat) (i k0 ci : Nat) (fs : List Value) (cur : Nat) (tab : Nat → Int32) (t n : Nat) (s : State) (H : Heap) (locs : List Loc) : Prop :=
  (H.size = b0 + cur + 1 ∧ k0 < cur) ∧ n_O D r H k0 ci fs ∧ (∀ k, k0 < k → k < cur → n_G D r i s H k) ∧ va_S (fun q => b0 + k0 ≤ q) s.heap H locs ∧ ∃ cA : ClassId, ArrOfT s cA .int ∧ H[r cur]? = some (arrV cA n (fun j => .int (n_ff tab t j)))
section NV
variable {p : Program} {l : Launch} {e : Env} {R : Room} {s : State} {m : MethodId} {args : Array Value} {below : List Frame} {meth : Method} {c : Code} {H : Heap} {locs : List Loc} {cells slots : Nat} {Q : State → Prop}
variable {cc : ByteArray} {nL pc : Nat} {own : String} {ls : Array Slot} {rest st : List Value} {D : va_G} {b0 : Nat} {r : Nat → Nat} {i k0 ci cur : Nat} {fs : List Value} {tab : Nat → Int32} {t n : Nat}
theorem n_newo (C : n_C p c cc nL own m meth s args D b0 r) (w : n_W D b0 r i k0 ci fs cur s H locs) (tab : Nat → Int32) (hc : cur < 173) (hn : n ≤ 2000) (hf : cells + 1 ≤ R.cells ∧ slots + n ≤ R.slots) (hdg : decode cc pc = .ok (.newarray .int, 2))
    (kk : ∀ H1 : Heap, n_V D b0 r i k0 ci fs cur tab 0 n s H1 locs → W p l e R s m args below meth c H1 locs (cells + 1) (slots + n) Q (F0 m (pc + 2) ls (.ref (r cur) :: rest))) : W p l e R s m args below meth c H locs cells slots Q (F0 m pc ls (.int (nI n) :: rest)) := by
  obtain ⟨hx, hb, hml, hown, hts, hK, hlk, hret, hin, hr, hN⟩ := C
  obtain ⟨⟨w1, w2⟩, w3, w4, w5⟩ := w
  have rc : r cur = b0 + cur := hr cur hc
  refine va_newaK hx hb (hts _ n_ac_int) rfl hdg rfl (nI_pos (by omega)) (nI_clamp (by omega)) (by simp [newarray.typeOf, componentBytes] <;> omega) hf.1 hf.2 w1 fun H1 cA e1 z1 o1 hAr hNm => ?_
  have key : n_V D b0 r i k0 ci fs cur tab 0 n s H1 locs := by
    refine ⟨⟨z1, w2⟩, w3.kept (o1 _ (by rw [← w1]; exact w3.lt)), fun k q1 q2 => (w4 k q1 q2).kept (o1 _ ?_), ⟨Nat.le_trans w5.1 (by omega), fun x h1 h2 => (o1 x (by have := w5.1; omega)).trans (w5.2.1 x h1 h2), w5.2.2⟩, cA, hAr, ?_⟩
    · rw [hr k (by omega)]; omega
    · rw [rc]
      exact e1.trans (congrArg some (arrV_c (fun j _ => by unfold n_ff; rw [if_neg (by omega)]; rfl)))
  rw [rc] at kk
  exact kk H1 key
theorem n_ia (C : n_C p c cc nL own m meth s args D b0 r) (w : n_V D b0 r i k0 ci fs cur tab t n s H locs) {x : Int32} (hc : cur < 173) (ht : t < n) (hn : n ≤ 2000) (hx : tab t = x) (hdg : decode cc pc = .ok (.iastore, 1))
    (kk : ∀ (H1 : Heap) (locs1 : List Loc), n_V D b0 r i k0 ci fs cur tab (t + 1) n s H1 locs1 → W p l e R s m args below meth c H1 locs1 cells slots Q (F0 m (pc + 1) ls rest)) : W p l e R s m args below meth c H locs cells slots Q (F0 m pc ls (.int x :: .int (nI t) :: .ref (r cur) :: rest)) := by
  obtain ⟨hxx, hb, hml, hown, hts, hK, hlk, hret, hin, hr, hN⟩ := C
  obtain ⟨⟨w1, w2⟩, w3, w4, w5, cA, g1, g2⟩ := w
  refine W.iast hxx hb g2 (g1 n _) (fun q => by cases q) (by rw [nI_clamp (by omega), arrV_size]; rintro (h | h); exact nI_pos (by omega) h; omega) rfl rfl hdg fun H1 e z oq => ?_
  rw [nI_clamp (by omega), arrV_store] at e
  have oq : ∀ q : Nat, q ≠ r cur → H1[q]? = H[q]? := oq
  refine kk H1 _ ⟨⟨by rw [z]; exact w1, w2⟩, w3.kept (oq _ (by rw [hr k0 (by omega), hr cur hc]; omega)), fun k q1 q2 => (w4 k q1 q2).kept (oq _ (by rw [hr k (by omega), hr cur hc]; omega)), w5.put z oq (by rw [hr cur hc]; omega), cA, g1, e.trans (congrArg some (arrV_c (fun j _ => ?_)))⟩
  unfold updV n_ff
  by_cases d : j = t
  · rw [if_pos d, if_pos (by omega), d, hx]
  · rw [if_neg d]
    try dsimp only
    by_cases f : j < t
    · rw [if_pos f, if_pos (by omega)]
    · rw [if_neg f, if_neg (by omega)]
theorem n_close (w : n_V D b0 r i k0 ci fs cur tab n n s H locs) (hs : mm_sh cur = .inl (.int, n, true)) (h42 : cur ≠ 42) (ht : ∀ j, j < n → mm_m0 cur j = tab j) : n_W D b0 r i k0 ci fs (cur + 1) s H locs := by
  obtain ⟨⟨w1, w2⟩, w3, w4, w5, cA, g1, g2⟩ := w
  refine ⟨⟨by rw [w1]; omega, by omega⟩, w3, fun k q1 q2 => ?_, w5⟩
  by_cases hk : k = cur
  · subst hk
    have e0 : arrV cA n (fun j => .int (n_ff tab n j)) = arrV cA n (mm_av .int r mm_M1 k) := arrV_c (fun j hj => by
      unfold n_ff
      rw [if_pos hj, ← ht j hj]
      rfl)
    rw [e0] at g2
    refine n_G.of h42 (mm_at.ar hs ⟨⟨_, g2, g1 n _, (fun q => by cases q), ?_, ?_, ?_, fun _ => ⟨cA, g1, rfl⟩⟩, trivial, fun q => by cases q⟩)
    · rw [arrV_size]; exact Nat.le_refl _
    · rw [arrV_size]
    · intro j hj; exact arrV_read _ _ hj
  · exact w4 k q1 (by omega)
end NV
