/-! new byte[8][32], by the machine's own words: the row of rows, then eight rows behind it -/
def n_AB (U : State) : Prop := (Cond.arrayOver (.array .byte)).before #[] U = true
/-- what it says of the tables -/
def q_AB (U : State) (cA cB : ClassId) (kA : Class) : Prop :=
  U.vm.findClass (FieldType.array .byte).toString = some cB ∧ (U.vm.classes.findIdx? fun (x : Class) => match x.kind with | .array component _ => component == cB | _ => false) = some cA ∧ U.vm.classes[cA]? = some kA ∧ kA.kind = .array cB (.array .byte) ∧ U.vm.findClass ("[" ++ (FieldType.array .byte).toString) = some cA
theorem n_AB.says {U : State} (h : n_AB U) : ∃ cA cB kA, q_AB U cA cB kA := by
  unfold n_AB Cond.before Cond.holds at h
  simp only [Cond.value, beq_iff_eq] at h
  obtain ⟨cB, h1, h⟩ := Option.bind_eq_some_iff.mp h
  obtain ⟨cA, h2, h⟩ := Option.bind_eq_some_iff.mp h
  obtain ⟨kA, h3, h4⟩ := Option.map_eq_some_iff.mp h
  have h5 := Array.of_findIdx?_eq_some h2
  rw [h3] at h5
  refine ⟨cA, cB, kA, h1, h2, h3, ?_⟩
  cases hk : kA.kind with
  | array b ty =>
    simp only [hk, beq_iff_eq] at h5
    simp only [hk, Bool.and_eq_true, decide_eq_true_eq] at h4
    exact ⟨by rw [h5, h4.1], h4.2⟩
  | _ => simp [hk] at h5
theorem n_AB.from {U : State} {cA cB : ClassId} {kA : Class} (h : q_AB U cA cB kA) : n_AB U := by
  obtain ⟨h1, h2, h3, h4, h5⟩ := h
  unfold n_AB Cond.before Cond.holds
  simp only [Cond.value, beq_iff_eq]
  refine Option.bind_eq_some_iff.mpr ⟨cB, h1, Option.bind_eq_some_iff.mpr ⟨cA, h2, Option.map_eq_some_iff.mpr ⟨kA, h3, ?_⟩⟩⟩
  simp only [h4]
  rw [decide_eq_true h5]
  rfl
theorem n_AB.moved {u U : State} (hvm : u.vm.Alike U.vm) (h : n_AB u) : n_AB U := by
  obtain ⟨cA, cB, kA, h1, h2, h3, h4, h5⟩ := h.says
  obtain ⟨kA', h3', he⟩ := hvm.2.2 _ _ h3
  exact n_AB.from (cA := cA) (cB := cB) (kA := kA') ⟨by rw [hvm.findClass]; exact h1, (hvm.findIdx?_eqK _ (fun _ => rfl)).trans h2, h3', by rw [he]; exact h4, by rw [hvm.findClass]; exact h5⟩
/-- k cells alike, one behind the other -/
def q_on (x : Cell) : Nat → State → State
  | 0, S => S
  | k + 1, S => (q_on x k S).pushCell x
theorem q_on_size (x : Cell) (S : State) : ∀ k, (q_on x k S).heap.size = S.heap.size + k
  | 0 => rfl
  | k + 1 => by
    show ((q_on x k S).heap.push x).size = _
    rw [Array.size_push, q_on_size x S k]; omega
theorem q_on_used (x : Cell) (S : State) : ∀ k, (q_on x k S).slotsUsed = S.slotsUsed + k * x.slots.size
  | 0 => by show S.slotsUsed = _; omega
  | k + 1 => by
    show (q_on x k S).slotsUsed + x.slots.size = _
    rw [q_on_used x S k, Nat.succ_mul]; omega
theorem q_on_vm (x : Cell) (S : State) : ∀ k, (q_on x k S).vm = S.vm
  | 0 => rfl
  | k + 1 => q_on_vm x S k
theorem q_on_top (x : Cell) (S : State) (f : JFrame) : ∀ k, q_on x k (S.setTop f) = (q_on x k S).setTop f
  | 0 => rfl
  | k + 1 => by
    show (q_on x k (S.setTop f)).pushCell x = _
    rw [q_on_top x S f k]; rfl
theorem q_on_java (x : Cell) (S : State) : ∀ k, (q_on x k S).topJava? = S.topJava?
  | 0 => rfl
  | k + 1 => q_on_java x S k
theorem q_on_old (x : Cell) (S : State) {a : Nat} (h : a < S.heap.size) : ∀ k, (q_on x k S).heap[a]? = S.heap[a]?
  | 0 => rfl
  | k + 1 => by
    show ((q_on x k S).heap.push x)[a]? = _
    rw [Array.getElem?_push, if_neg (by rw [q_on_size]; omega), q_on_old x S h k]
theorem q_on_new (x : Cell) (S : State) {j : Nat} : ∀ k, j < k → (q_on x k S).heap[S.heap.size + j]? = some x
  | 0, h => by omega
  | k + 1, h => by
    show ((q_on x k S).heap.push x)[S.heap.size + j]? = _
    rw [Array.getElem?_push, q_on_size]
    by_cases e : j = k
    · rw [if_pos (by omega)]
    · rw [if_neg (by omega), q_on_new x S k (by omega)]
theorem q_push_set (S : State) (x y : Cell) {a : Nat} (h : a < S.heap.size) : (S.pushCell x).setCell a y = (S.setCell a y).pushCell x := by
  have e : (S.heap.push x).setIfInBounds a y = (S.heap.setIfInBounds a y).push x := by
    apply Array.ext_getElem?
    intro i
    rw [Array.getElem?_setIfInBounds, Array.getElem?_push, Array.getElem?_push, Array.getElem?_setIfInBounds, Array.size_push, Array.size_setIfInBounds]
    by_cases e1 : a = i
    · subst e1
      rw [if_pos rfl, if_pos (by omega), if_neg (by omega), if_pos rfl, if_pos h]
    · rw [if_neg e1, if_neg e1]
  unfold State.pushCell State.setCell
  dsimp only
  rw [e]
theorem q_on_set (x y : Cell) (S : State) {a : Nat} (h : a < S.heap.size) : ∀ k, (q_on x k S).setCell a y = q_on x k (S.setCell a y)
  | 0 => rfl
  | k + 1 => by
    show ((q_on x k S).pushCell x).setCell a y = (q_on x k (S.setCell a y)).pushCell x
    rw [q_push_set _ _ _ (by rw [q_on_size]; omega), q_on_set x y S h k]
theorem q_set_last (S : State) {x y : Cell} (h : x.slots.size = y.slots.size) : (S.pushCell x).setCell S.heap.size y = S.pushCell y := by
  have e : (S.heap.push x).setIfInBounds S.heap.size y = S.heap.push y := by
    apply Array.ext_getElem?
    intro i
    rw [Array.getElem?_setIfInBounds, Array.getElem?_push, Array.getElem?_push, Array.size_push]
    by_cases e1 : S.heap.size = i
    · subst e1
      rw [if_pos rfl, if_pos (by omega), if_pos rfl]
    · rw [if_neg e1, if_neg (fun q => e1 q.symm), if_neg (fun q => e1 q.symm)]
  unfold State.pushCell State.setCell
  dsimp only
  rw [e, h]
/-- a row; the row of rows when k of them are made; the state then -/
def q_in (cB : ClassId) : Cell := { cls := cB, slots := Array.replicate 32 (.int 0), vm := .none }
def q_out (cA : ClassId) (h k : Nat) : Cell := arrV cA 8 (fun j => if j < k then .ref (h + 1 + j) else .null)
def q_st (cA cB : ClassId) (T : State) (k : Nat) : State := q_on (q_in cB) k (T.pushCell (q_out cA T.heap.size k))
theorem q_st_size (cA cB : ClassId) (T : State) (k : Nat) : (q_st cA cB T k).heap.size = T.heap.size + 1 + k := by
  unfold q_st
  rw [q_on_size]
  show (T.heap.push _).size + k = _
  rw [Array.size_push]
theorem q_st_used (cA cB : ClassId) (T : State) (k : Nat) : (q_st cA cB T k).slotsUsed = T.slotsUsed + 8 + k * 32 := by
  unfold q_st
  rw [q_on_used]
  show T.slotsUsed + (q_out cA T.heap.size k).slots.size + k * (Array.replicate 32 (Value.int 0)).size = _
  rw [Array.size_replicate, q_out, arrV_size]
theorem q_st_vm (cA cB : ClassId) (T : State) (k : Nat) : (q_st cA cB T k).vm = T.vm := q_on_vm _ _ k
theorem q_st_top (cA cB : ClassId) (T : State) (f : JFrame) (k : Nat) : q_st cA cB (T.setTop f) k = (q_st cA cB T k).setTop f := by
  show q_on (q_in cB) k ((T.pushCell (q_out cA T.heap.size k)).setTop f) = _
  exact q_on_top _ _ f k
theorem q_st_old (cA cB : ClassId) (T : State) (k : Nat) {a : Nat} (h : a < T.heap.size) : (q_st cA cB T k).heap[a]? = T.heap[a]? := by
  unfold q_st
  rw [q_on_old _ _ (by show a < (T.heap.push _).size; rw [Array.size_push]; omega)]
  show (T.heap.push _)[a]? = _
  rw [Array.getElem?_push, if_neg (by omega)]
theorem q_st_out (cA cB : ClassId) (T : State) (k : Nat) : (q_st cA cB T k).heap[T.heap.size]? = some (q_out cA T.heap.size k) := by
  unfold q_st
  rw [q_on_old _ _ (by show T.heap.size < (T.heap.push _).size; rw [Array.size_push]; omega)]
  show (T.heap.push _)[T.heap.size]? = _
  rw [Array.getElem?_push_size]
theorem q_st_in (cA cB : ClassId) (T : State) (k : Nat) {j : Nat} (h : j < k) : (q_st cA cB T k).heap[T.heap.size + 1 + j]? = some (q_in cB) := by
  have := q_on_new (q_in cB) (T.pushCell (q_out cA T.heap.size k)) k h
  rw [show (T.pushCell (q_out cA T.heap.size k)).heap.size = T.heap.size + 1 from Array.size_push ..] at this
  exact this
theorem q_out_set (cA : ClassId) (h k : Nat) : (q_out cA h k).setSlot k (.ref (h + 1 + k)) = q_out cA h (k + 1) := by
  unfold q_out
  rw [arrV_store]
  unfold arrV
  congr 2
  funext j
  unfold updV
  by_cases d : j.val = k
  · rw [if_pos d]
    dsimp only
    rw [if_pos (by omega), d]
  · rw [if_neg d]
    dsimp only
    by_cases g : j.val < k
    · rw [if_pos g, if_pos (by omega)]
    · rw [if_neg g, if_neg (by omega)]
/-- one row more -/
theorem q_st_next (cA cB : ClassId) (T : State) (k : Nat) : ((q_st cA cB T k).pushCell (q_in cB)).setCell T.heap.size ((q_out cA T.heap.size k).setSlot k (.ref (T.heap.size + 1 + k))) = q_st cA cB T (k + 1) := by
  rw [q_out_set]
  show (q_on (q_in cB) (k + 1) (T.pushCell (q_out cA T.heap.size k))).setCell T.heap.size (q_out cA T.heap.size (k + 1)) = _
  rw [q_on_set _ _ _ (by show T.heap.size < (T.heap.push _).size; rw [Array.size_push]; omega), q_set_last _ (by unfold q_out; rw [arrV_size, arrV_size])]
  rfl
section QM
variable {E : CtlPost} {e : Env} {d : Bool} {acts : List Action} {cA cB x : ClassId} {kA kB : Class}
theorem q_row {S : State} (h1 : S.vm.classes[cB]? = some kB) (h2 : kB.kind = .array x .byte) (l1 : 32 ≤ e.platform.arrayLengthLimit) (l2 : 32 ≤ e.platform.maxHeapBytes) (l3 : S.heap.size < e.platform.maxCells) (l4 : S.slotsUsed + 32 ≤ e.platform.maxSlots) {Q : Addr → Pre}
    (hq : ∀ acts', Q S.heap.size d acts' (S.pushCell (q_in cB))) : wp (multianewarray.make cB [32]) Q E e d acts S := by
  rw [multianewarray.make]
  simp only [wp_bind', W.ite, show ¬ ((32 : Int32) < 0) from by decide, if_false, wp_pure', W.theClass, h1, Option.some.injEq, exists_eq_left', h2]
  exact W.newArray_of h1 h2 (Nat.not_lt.mpr l1) (Nat.not_lt.mpr l2) l3 l4 rfl hq
theorem q_loop {T : State} (h1 : T.vm.classes[cB]? = some kB) (h2 : kB.kind = .array x .byte) (g1 : T.vm.classes[cA]? = some kA) (g2 : kA.kind = .array cB (.array .byte)) (l1 : 32 ≤ e.platform.arrayLengthLimit) (l2 : 32 ≤ e.platform.maxHeapBytes) (l3 : T.heap.size + 9 ≤ e.platform.maxCells) (l4 : T.slotsUsed + 264 ≤ e.platform.maxSlots) {Q : PUnit → Pre}
    (hq : ∀ d' acts', Q PUnit.unit d' acts' (q_st cA cB T 8)) : ∀ (n k : Nat) (d : Bool) (acts : List Action), k + n = 8 →
      wp (forIn (List.range' k n) PUnit.unit (fun i (_ : PUnit) => (do Jvm.writeLoc T.heap.size i (.ref (← multianewarray.make cB [32])); Pure.pure (ForInStep.yield PUnit.unit) : Sem (ForInStep PUnit)))) Q E e d acts (q_st cA cB T k)
  | 0, k, d, acts, hk => by
    have : k = 8 := by omega
    subst this
    simp only [List.range'_zero, List.forIn_nil, wp_pure']
    exact hq _ _
  | n + 1, k, d, acts, hk => by
    simp only [List.range'_succ, List.forIn_cons, wp_bind']
    refine q_row (by rw [q_st_vm]; exact h1) h2 l1 l2 (by rw [q_st_size]; omega) (by rw [q_st_used]; omega) fun acts' => ?_
    rw [q_st_size]
    simp only [wp_bind', W.writeLoc, wp_pure']
    refine ⟨q_out cA T.heap.size k, ?_, (fun q => by cases q), ?_, ?_, ?_⟩
    · show ((q_st cA cB T k).heap.push _)[T.heap.size]? = _
      rw [Array.getElem?_push, if_neg (by rw [q_st_size]; omega), q_st_out]
    · unfold q_out; rw [arrV_size]; omega
    · have e0 : ((q_st cA cB T k).pushCell (q_in cB)).vm.classes[cA]? = some kA := by
        rw [show ((q_st cA cB T k).pushCell (q_in cB)).vm = T.vm from q_st_vm cA cB T k]
        exact g1
      show State.fitsSlot ((q_st cA cB T k).pushCell (q_in cB)) cA .none k (.ref (T.heap.size + 1 + k)) = true
      generalize (q_st cA cB T k).pushCell (q_in cB) = S at e0
      unfold State.fitsSlot State.slotType?
      rw [e0]
      show (match (match kA.kind with | .array _ type => some type | _ => kA.instanceTypes[k]?) with | some t => fits t (.ref (T.heap.size + 1 + k)) | none => false) = true
      rw [g2]
      rfl
    · rw [q_st_next]
      exact q_loop h1 h2 g1 g2 l1 l2 l3 l4 hq n (k + 1) _ _ (by omega)
end QM
section QS
variable {E : CtlPost} {e : Env} {d : Bool} {acts : List Action} {cA cB x : ClassId} {kA kB : Class}
theorem q_make {T : State} (h1 : T.vm.classes[cB]? = some kB) (h2 : kB.kind = .array x .byte) (g1 : T.vm.classes[cA]? = some kA) (g2 : kA.kind = .array cB (.array .byte)) (l1 : 32 ≤ e.platform.arrayLengthLimit) (l2 : 32 ≤ e.platform.maxHeapBytes) (l3 : T.heap.size + 9 ≤ e.platform.maxCells) (l4 : T.slotsUsed + 264 ≤ e.platform.maxSlots) {Q : Addr → Pre}
    (hq : ∀ d' acts', Q T.heap.size d' acts' (q_st cA cB T 8)) : wp (multianewarray.make cA [8, 32]) Q E e d acts T := by
  rw [multianewarray.make]
  simp only [wp_bind', W.ite, show ¬ ((8 : Int32) < 0) from by decide, if_false, wp_pure', W.theClass, g1, Option.some.injEq, exists_eq_left', g2, show ((8 : Int32) == 0) = false from by decide, Bool.false_eq_true]
  refine W.newArray_of g1 g2 (Nat.not_lt.mpr (Nat.le_trans (by decide) l1)) (Nat.not_lt.mpr l2) (by omega) (Nat.le_trans (Nat.add_le_add_left (by decide) _) l4) rfl fun acts' => ?_
  have e0 : T.pushCell { cls := cA, slots := Array.replicate (8 : Int32).toNatClampNeg .null } = q_st cA cB T 0 := by
    show T.pushCell _ = T.pushCell (q_out cA T.heap.size 0)
    congr 1
  rw [e0]
  simp only [Std.Legacy.Range.forIn_eq_forIn_range', wp_bind', wp_pure']
  exact q_loop h1 h2 g1 g2 l1 l2 l3 l4 (Q := fun _ => Q T.heap.size) (fun d' acts' => hq d' acts') 8 0 _ _ rfl
theorem q_sem {T : State} {f : JFrame} {index : Nat} {rest : List Value} (hs : T.topJava?.isSome) (hr : T.vm.classReady f.method.cls index cA) (h1 : T.vm.classes[cB]? = some kB) (h2 : kB.kind = .array x .byte) (g1 : T.vm.classes[cA]? = some kA) (g2 : kA.kind = .array cB (.array .byte)) (l1 : 32 ≤ e.platform.arrayLengthLimit) (l2 : 32 ≤ e.platform.maxHeapBytes) (l3 : T.heap.size + 9 ≤ e.platform.maxCells) (l4 : T.slotsUsed + 264 ≤ e.platform.maxSlots) (hst : f.stack = .int 32 :: .int 8 :: rest) {Q : Unit → Pre}
    (hq : ∀ d' acts', Q () d' acts' ((q_st cA cB T 8).setTop { f with stack := .ref T.heap.size :: rest })) : wp (multianewarray.sem index 2) Q E e d acts (T.setTop f) := by
  simp only [multianewarray.sem, wp_bind', W.resolveClassAt_ready (State.method?_setTop f hs) hr]
  refine (popN_top (args := [.int 8, .int 32]) (rest := rest) hs hst).mpr ?_
  simp only [List.mapM_cons, List.mapM_nil, wp_bind', wp_pure']
  refine q_make (T := T.setTop { f with stack := rest }) h1 h2 g1 g2 l1 l2 l3 l4 fun d' acts' => ?_
  simp only [wp_bind', W.mark, W.pushRef]
  refine ⟨{ f with stack := rest }, ?_, ?_⟩
  · rw [q_st_top]
    exact State.topJava?_setTop' _ (by unfold q_st; rw [q_on_java]; exact hs)
  · rw [q_st_top, State.setTop_setTop]
    exact hq _ _
theorem q_cold {T : State} {f : JFrame} {index : Nat} {vm' : Vm} {Q : Unit → Pre} (hs : T.topJava?.isSome) (hg : (Jvm.resolveClass f.method.cls index).Gives e.toSetting T.vm (.ok cA) vm') (hr : vm'.classReady f.method.cls index cA) (hz : vm'.classes.size ≤ T.vm.classes.size) : wp (multianewarray.sem index 2) Q E e d acts (T.setTop f) ↔ wp (multianewarray.sem index 2) Q E e d acts ((T.setVm vm').setTop f) := by
  simp only [multianewarray.sem, wp_bind']
  exact W.resolveClassAt_transfer (s := T.setTop f) (State.method?_setTop f hs) hg hr hz
end QS
section QT
variable {p : Program} {l : Launch} {e : Env} {R : Room} {s : State} {m : MethodId} {args : Array Value} {below : List Frame} {meth : Method} {c : Code} {T : State} {locs : List Loc} {cells slots : Nat}
theorem q_on_stand (y : Cell) (X : Stand p l e R s m args below meth c T locs cells slots) : ∀ k, Stand p l e R s m args below meth c (q_on y k T) locs (cells + k) (slots + k * y.slots.size)
  | 0 => by rw [Nat.zero_mul]; exact X
  | k + 1 => by
    have h := (q_on_stand y X k).pushed y
    rw [Nat.add_assoc slots, ← Nat.succ_mul] at h
    exact h
theorem q_step (X : Stand p l e R s m args below meth c T locs cells slots) (hx : p.tables.exec = Jvm.exec) {own : String} {index : Nat} (hown : s.vm.findClass own = some m.cls) (hcl : (Cond.classLink own index "[[B").before args s = true) (hab : n_AB s) (hac : (Cond.arrayClass .byte).before args s = true) {g : JFrame} (hg : g.method = m) {rest : List Value} (hst : g.stack = .int 32 :: .int 8 :: rest) (hdg : decode c.code g.pc = .ok (.multianewarray index 2, 4)) (f1 : cells + 9 ≤ R.cells) (f2 : slots + 264 ≤ R.slots) :
    ∃ (vm₁ : Vm) (cA cB : ClassId), ArrOfT s cA (.array .byte) ∧ ArrOfT s cB .byte ∧ Stand p l e R s m args below meth c (q_st cA cB (T.setVm vm₁) 8) locs (cells + 9) (slots + 264) ∧
      ∀ target, Steps p.tables e below ((q_st cA cB (T.setVm vm₁) 8).setTop { g with pc := g.pc + 4, stack := .ref T.heap.size :: rest }) target → Steps p.tables e below (T.setTop g) target := by
  subst hg
  obtain ⟨cA, cB, kA, a1, a2, a3, a4, a5⟩ := hab.says
  obtain ⟨cB', kB, y, b1, b2, b3⟩ := Cond.arrayClass_spec hac
  have hB : cB' = cB := Option.some.inj (b1.symm.trans a1)
  subst hB
  obtain ⟨cA', q1, q2⟩ := Cond.classLink_spec hown hcl e.platform (by rw [X.admits.platform])
  have hA : cA' = cA := Option.some.inj (q1.symm.trans a5)
  subst hA
  obtain ⟨w1, w2, w3⟩ := State.classEntry (e := e) X.warmed q2
  have hz : (T.vm.noted g.method.cls index (.cls cA')).classes.size ≤ T.vm.classes.size := by no_record
  generalize T.vm.noted g.method.cls index (.cls cA') = vm₁ at w1 w2 w3 hz
  obtain ⟨kA', c1, c2⟩ := w2.alike.2.2 _ _ a3
  obtain ⟨kB', d1, d2⟩ := w2.alike.2.2 _ _ b2
  have X1 := q_on_stand (q_in cB') ((X.noted w2).pushed (q_out cA' T.heap.size 8)) 8
  obtain ⟨r1, r2⟩ := X.roomAbove f1 f2
  refine ⟨vm₁, cA', cB', fun n z => ⟨fun q h => (by cases h), kA, a3, cB', a4⟩, fun n z => ⟨fun q h => (by cases h), kB, b2, y, b3⟩, ?_, fun target hrest => ?_⟩
  · have e1 : (q_out cA' T.heap.size 8).slots.size = 8 := by unfold q_out; rw [arrV_size]
    have e2 : (q_in cB').slots.size = 32 := Array.size_replicate
    rw [e1, e2] at X1
    exact X1
  · refine Steps.instr (c := c) X.here ?_
    rw [hdg, hx]
    show wp (multianewarray.sem index 2) _ _ e false [] (T.setTop g)
    refine (q_cold X.here.top w1 w3 hz).mpr ?_
    refine q_sem (T := T.setVm vm₁) X.here.top w3 d1 (by rw [d2]; exact b3) c1 (by rw [c2]; exact a4) ?_ ?_ r1 r2 hst fun d' acts' acts'' => ?_
    · rw [Launch.admits_arrayLengthLimit X.admits]; decide
    · rw [Launch.admits_maxHeapBytes X.admits]; decide
    · rw [afterInstr_ok]
      exact hrest
end QT
