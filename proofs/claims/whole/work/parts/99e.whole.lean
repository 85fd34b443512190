section LW3
variable {p : Program} {l : Launch} {e : Env} {s : State} {m : MethodId} {below : List Frame} {meth : Method} {c : Code} {H : Heap} {locs : List Loc} {cells slots : Nat} {Q : State → Prop}
variable {D : va_G} {r : Nat → Nat} {b L cur pc : Nat} {xs : Nat → Int32} {ls : Array Slot} {rest st : List Value} {lv : List (Nat × Value)}
/-- the world as far as the law has made it -/
def l_W (D : va_G) (r : Nat → Nat) (cur : Nat) (s : State) (H : Heap) (locs : List Loc) : Prop := H.size = s.heap.size + cur ∧ (∀ k, k < cur → mm_at D r mm_M1 s H k) ∧ va_S (fun q => s.heap.size ≤ q) s.heap H locs
def l_Y (D : va_G) (r : Nat → Nat) (cur ci2 : Nat) (s : State) (H : Heap) (locs : List Loc) : Prop := H.size = s.heap.size + cur + 1 ∧ (∀ k, k < cur → mm_at D r mm_M1 s H k) ∧ va_S (fun q => s.heap.size ≤ q) s.heap H locs ∧ n_O D r H cur ci2 (n_bl ci2)
theorem l_new (C : l_C p c m meth s D r b L xs) (hr : ∀ k, k < 173 → r k = s.heap.size + k) (w : l_W D r cur s H locs) {ci2 index N : Nat} {q : vw_C} (hk : n_K ci2) (hq : vwCl[ci2]? = some q) (hN : q.2.2 = N) (hcl : Cond.classLink RL index q.1 ∈ wsL_law) (hc : cur < 173) (hf : cells + 1 ≤ room_1.cells ∧ slots + N ≤ room_1.slots) (hdg : decode cL_law pc = .ok (.new index, 3))
    (kk : ∀ H1 : Heap, l_Y D r cur ci2 s H1 locs → W p l e room_1 s m #[Value.ref b] below meth c H1 locs (cells + 1) (slots + N) Q (F0 m (pc + 3) ls (.ref (r cur) :: rest))) : W p l e room_1 s m #[Value.ref b] below meth c H locs cells slots Q (F0 m pc ls rest) := by
  obtain ⟨Cn, T, N', ty0, k1, k2, k3, k4, k5, k6⟩ := hk
  have e0 : q = (Cn, T, N') := Option.some.inj (hq.symm.trans k1)
  subst e0
  dsimp only at hN
  subst hN
  obtain ⟨⟨hx, hb, hml, hown, hts, hK, hR, hZ, hlk, hret, hNn⟩, -⟩ := C
  obtain ⟨w1, w4, w5⟩ := w
  have rc : r cur = s.heap.size + cur := hr cur hc
  have hKn := hK.1 ci2 _ k1
  refine W.newcK hx hb hown (hts _ hcl) (hts _ k5) (hts _ k6) rfl hdg hf.1 hf.2 hKn.2.1 w1 fun H1 kC hkC e1 z1 o1 => ?_
  rw [rc] at kk
  refine kk H1 ⟨z1, fun k q2 => n_at_kept (w4 k q2) (o1 _ ?_), ⟨Nat.le_trans w5.1 (by omega), fun x h1 h2 => (o1 x (by have := w5.1; omega)).trans (w5.2.1 x h1 h2), w5.2.2⟩, ⟨_, k1, ?_⟩⟩
  · rw [hr k (by omega)]; omega
  · rw [rc]
    exact (u_born ty0 hts k2 hKn hkC e1 k3).to k4
theorem l_call {ci2 n ms fr lo maxL index na : Nat} {y : MethodName} {bytes : ByteArray} {As : List Value} {pre : Heap → Prop} (C : l_C p c m meth s D r b L xs) (hr : ∀ k, k < 173 → r k = s.heap.size + k) (hnn : n_N s) (w : l_Y D r cur ci2 s H locs) (hl : lv_has ls 4 lv) (hc : cur + n < 173) (hM : n_M l y bytes maxL fr lo n ms D s.heap.size r (.ref (r cur) :: As) cur ci2 pre) (hp : pre H) (h1 : Cond.methodLink RL index y ∈ wsL_law) (h2 : Cond.instanceMethod y ∈ wsL_law) (h3 : Cond.initialized y.cls ∈ wsL_law) (h4 : Cond.code y bytes maxL none ∈ wsL_law) (h5 : y.cls ≠ "java/lang/invoke/MethodHandle" ∧ y.cls ≠ "java/lang/invoke/VarHandle" ∧ (parseMethodDescriptor y.desc).map (fun d => d.parameters.length) = some na) (hyn : y.name = "<init>") (hn : As.length = na) (hst : st = As.reverse ++ .ref (r cur) :: rest) (hW : (rest.map fun v => v.category).sum ≤ 8) (hR : fr + 1 ≤ room_1.frames ∧ 8 + (maxL + 11) + lo ≤ room_1.locals) (hf : cells + n ≤ room_1.cells ∧ slots + ms ≤ room_1.slots) (hdg : decode cL_law pc = .ok (.invokespecial index, 3))
    (kk : ∀ (H1 : Heap) (locs1 : List Loc), l_W D r (cur + 1 + n) s H1 locs1 → W p l e room_1 s m #[Value.ref b] below meth c H1 locs1 (cells + n) (slots + ms) Q (F0 m (pc + 3) ls rest)) : W p l e room_1 s m #[Value.ref b] below meth c H locs cells slots Q (F0 m pc ls st) := by
  obtain ⟨⟨hx, hb, hml, hown, hts, hK, hRr, hZ, hlk, hret, hNn⟩, -⟩ := C
  have cw : CallB room_1 s #[Value.ref b] RL index y bytes maxL none (mm_ws y bytes maxL none) (n_rm fr lo n ms) n ms na ∧ y.name = "<init>" ∧ (Cond.instanceMethod y).before #[Value.ref b] s = true := ⟨callB_of na hts (mm_goodW h4) rfl rfl rfl (hts _ h3) (hts _ h1) h5 hR, hyn, hts _ h2⟩
  refine va_callv (va_runI (As := As) (rest := rest) (b := r cur) ⟨hx, hb, hml, hown, hts⟩ hM cw ⟨n_blind, fun U hU hW => ⟨rfl, hK.moved hW.alike, hnn.warm hW, by rw [hU]; exact w.1, by rw [hU]; exact w.2.2.2, by rw [hU]; exact hp⟩⟩ rfl hn hl.1 hst (lv_room hW) hdg hf) w.2.2.1 (fun q _ h => Nat.le_trans (by omega) h) (fun q h => Nat.le_trans (by omega) h) (fun u t H1 locs1 ht hvm _ hB _ ho hS => kk H1 locs1 ?_)
  subst ht
  refine ⟨by rw [hB.1]; omega, fun k hk => ?_, hS⟩
  by_cases h : k < cur
  · refine n_at_kept (w.2.1 k h) (ho _ ?_ ?_)
    · rw [hr k (by omega), w.1]; omega
    · rw [hr k (by omega)]; omega
  · exact (hB.2 k (by omega) (by omega)).moved hvm.symm
end LW3
set_option maxHeartbeats 4000000 in
set_option maxRecDepth 100000 in
/-- THE LAW, from its entry -/
theorem whole_start {p : Program} {e : Env} {s : State} {m : MethodId} {below : List Frame} {meth : Method} {c : Code} (l : Launch) {b L : Nat} {xs : Nat → Int32} (hL : L ≤ 3072) (C0 : lw_At p s m meth c b L xs) : W p l e room_1 s m #[Value.ref b] below meth c s.heap [] 0 0 (lw_Z below #[Value.ref b] s) (entryFrame m ([Value.ref b] : List Value).toArray 4) := by
  obtain ⟨hx, hb, hr, hml, hown, hts, hX, hbl, hlocks, hgv⟩ := id C0
  obtain ⟨D, r, hK, hR, hrr, hZ, hN, hnn, hst⟩ := s_world hts hgv
  have C : l_C p c m meth s D r b L xs := ⟨⟨hx, hb, hml, hown, fun w h => hts w (i_law w h), hK, hR, hZ, hlocks, hr, hN⟩, hX, hbl, hL⟩
  have hl := lv_entry ([.ref b]) (n := 4) (Nat.le_of_ble_eq_true rfl)
  rw [lg_entry_eq]
  generalize (lg_sl ([.ref b]) ++ List.replicate (4 - (lg_sl ([.ref b])).length) Slot.unset).toArray = ls at hl ⊢
  have hl : lv_has ls 4 [(0, .ref b)] := hl
  have w0 : l_W D r 0 s s.heap [] := ⟨rfl, fun k h => absurd h (by omega), va_S.rf⟩
  refine l_new C hrr w0 (q := (RX11, TX11, 7)) (N := 7) nk11 rfl rfl (in_r1 _ (List.mem_of_getElem? (i := 0) rfl)) (by omega) ⟨by decide, by decide⟩ dL_law_0 (fun H w => ?_)
  refine lv_dup hx hb dL_law_3 rfl ?_
  refine l_call (As := []) (rest := [.ref (r 0)]) C hrr hnn w hl (by omega) (k_X11_init l D _ r hrr) trivial (in_r1 _ (List.mem_of_getElem? (i := 7) rfl)) (in_r1 _ (List.mem_of_getElem? (i := 8) rfl)) (in_r1 _ (List.mem_of_getElem? (i := 2) rfl)) (in_r1 _ (List.mem_of_getElem? (i := 9) rfl)) ⟨by decide, by decide, rfl⟩ rfl rfl rfl (Nat.le_of_ble_eq_true rfl) ⟨(Nat.le_of_ble_eq_true rfl), (Nat.le_of_ble_eq_true rfl)⟩ ⟨by decide, by decide⟩ dL_law_4 (fun H locs w => ?_)
  refine lv_astore_n (lv' := [(1, .ref (r 0)), (0, .ref b)]) hx hb dL_law_7 rfl hl (by decide) rfl (fun ls hl => ?_)
  refine l_new C hrr w (q := (RX12, TX12, 58)) (N := 58) nk12 rfl rfl (in_r1 _ (List.mem_of_getElem? (i := 3) rfl)) (by omega) ⟨by decide, by decide⟩ dL_law_8 (fun H w => ?_)
  refine lv_dup hx hb dL_law_11 rfl ?_
  refine l_call (cur := 117) (As := []) (rest := [.ref (r 117)]) C hrr hnn w hl (by omega) (k_X12_init l D _ r hrr) trivial (in_r7 _ (List.mem_of_getElem? (i := 8) rfl)) (in_r7 _ (List.mem_of_getElem? (i := 9) rfl)) (in_r1 _ (List.mem_of_getElem? (i := 5) rfl)) (in_r7 _ (List.mem_of_getElem? (i := 10) rfl)) ⟨by decide, by decide, rfl⟩ rfl rfl rfl (Nat.le_of_ble_eq_true rfl) ⟨(Nat.le_of_ble_eq_true rfl), (Nat.le_of_ble_eq_true rfl)⟩ ⟨by decide, by decide⟩ dL_law_12 (fun H locs w => ?_)
  refine lv_astore_n (lv' := [(2, .ref (r 117)), (1, .ref (r 0)), (0, .ref b)]) hx hb dL_law_15 rfl hl (by decide) rfl (fun ls hl => ?_)
  refine lv_iconst (v := nI 0) hx hb dL_law_16 (by decide) ?_
  refine lv_istore_n (lv' := [(3, .int (nI 0)), (2, .ref (r 117)), (1, .ref (r 0)), (0, .ref b)]) hx hb dL_law_17 rfl hl (by decide) rfl (fun ls hl => ?_)
  have w : l_W D r 173 s H locs := w
  have hG : mm_W D s.heap.size r mm_M1 s H locs := by
    refine ⟨fun k hk => ?_, w.2.2⟩
    by_cases h : k < 173
    · exact w.2.1 k h
    · have hlt := hR.2.1 k (by omega) hk
      exact n_at_kept (hst k (by omega) hk) (w.2.2.2.1 _ hlt (Nat.not_le.mpr hlt))
  exact l_loop C (L + 1) 0 (Nat.zero_le L) (by omega) mm_M1 0 0 H locs ls s_pub hG hl
