section GR2
/-! the instruction's own steps: one row, its reference, four times over; then the whole -/
variable {E : CtlPost} {e : Env} {d : Bool} {acts : List Action} {U : State} {cA cI cc : ClassId} {kA kI : Class}
/-- what the platform must bear: arrays of 4 references and of 30 ints -/
def grid_bears (e : Env) : Prop := ¬ 30 > e.platform.arrayLengthLimit ∧ ¬ 120 > e.platform.maxHeapBytes
theorem grid_bears_of {l : Launch} (h : l.admits e) : grid_bears e := by
  rw [grid_bears, Launch.admits_arrayLengthLimit h, Launch.admits_maxHeapBytes h]
  decide
theorem gr_mk1 {n : Nat} (hP : grid_bears e) (hI : U.vm.classes[cI]? = some kI) (hkI : kI.kind = .array cc .int) (h1 : U.heap.size + 1 + n < e.platform.maxCells) (h2 : U.slotsUsed + (4 + 30 * n) + 30 ≤ e.platform.maxSlots) {Q : Addr → Pre} (hq : ∀ acts', Q (U.heap.size + 1 + n) d acts' ((gr U cA cI n).pushCell (gr_row cI))) : wp (multianewarray.make cI [nI 30]) Q E e d acts (gr U cA cI n) := by
  have hz : (gr U cA cI n).heap.size = U.heap.size + 1 + n := gr_size U.heap cA cI n
  have hneg : ¬ nI 30 < 0 := nI_pos (by decide)
  rw [multianewarray.make]
  simp only [wp_bind', W.ite, hneg, if_false, wp_pure', W.theClass]
  refine ⟨kI, hI, ?_⟩
  simp only [hkI, nI_clamp (show 30 < 2 ^ 31 by decide)]
  refine W.newArray_of hI hkI hP.1 hP.2 (by rw [hz]; exact h1) h2 rfl fun acts' => ?_
  show Q (gr U cA cI n).heap.size d acts' ((gr U cA cI n).pushCell { cls := cI, slots := Array.replicate 30 (.int 0), vm := .none })
  rw [hz, arrV_new]
  exact hq acts'
theorem gr_wr {n : Nat} {md : Mode} (hn : n < 4) (hA : U.vm.classes[cA]? = some kA) (hkA : kA.kind = .array cI (.array .int)) {Q : Unit → Pre} (hq : ∀ acts', Q () true acts' (gr U cA cI (n + 1))) : wp (Jvm.writeLoc U.heap.size n (.ref (U.heap.size + 1 + n)) md) Q E e d acts ((gr U cA cI n).pushCell (gr_row cI)) := by
  have hget : ((gr U cA cI n).pushCell (gr_row cI)).heap[U.heap.size]? = some (gr_tab cA U.heap.size n) := by
    show ((gr_heap U.heap cA cI n).push (gr_row cI))[U.heap.size]? = _
    rw [Array.getElem?_push, if_neg (by rw [gr_size]; omega), gr_at]
  have hfit : ((gr U cA cI n).pushCell (gr_row cI)).fitsSlot cA .none n (.ref (U.heap.size + 1 + n)) = true := by
    have hA' : ((gr U cA cI n).pushCell (gr_row cI)).vm.classes[cA]? = some kA := hA
    rw [State.fitsSlot, State.slotType?, hA']
    simp only [Option.bind_eq_bind, Option.bind_some, hkA]
    rfl
  rw [W.writeLoc]
  refine ⟨_, hget, nofun, by rw [gr_tab, arrV_size]; exact hn, hfit, ?_⟩
  rw [gr_succ]
  exact hq _
theorem gr_make (hP : grid_bears e) (hA : U.vm.classes[cA]? = some kA) (hkA : kA.kind = .array cI (.array .int)) (hI : U.vm.classes[cI]? = some kI) (hkI : kI.kind = .array cc .int) (h1 : U.heap.size + 5 ≤ e.platform.maxCells) (h2 : U.slotsUsed + 124 ≤ e.platform.maxSlots) {Q : Addr → Pre} (hq : ∀ d' acts', Q U.heap.size d' acts' (gr U cA cI 4)) : wp (multianewarray.make cA [nI 4, nI 30]) Q E e d acts U := by
  have hneg : ¬ nI 4 < 0 := nI_pos (by decide)
  have hne : (nI 4 == 0) = false := rfl
  have hloop : ∀ f : Nat → PUnit → Sem (ForInStep PUnit), forIn ([0:4] : Std.Legacy.Range) PUnit.unit f = forIn [0, 1, 2, 3] PUnit.unit f := fun f => Std.Legacy.Range.forIn_eq_forIn_range' ..
  rw [multianewarray.make]
  simp only [wp_bind', W.ite, hneg, if_false, wp_pure', W.theClass]
  refine ⟨kA, hA, ?_⟩
  simp only [hkA, nI_clamp (show 4 < 2 ^ 31 by decide), hne, wp_bind', wp_pure', Bool.false_eq_true, if_false, hloop, List.forIn_cons, List.forIn_nil]
  refine W.newArray_of hA hkA (by have := hP.1; omega) (by have := hP.2; show ¬ 4 * 4 > _; omega) (by omega) (by omega) rfl fun a0 => ?_
  have hz := gr_zero U cA cI
  rw [show U.pushCell { cls := cA, slots := Array.replicate 4 Value.null } = gr U cA cI 0 from hz]
  simp only [wp_bind', wp_pure']
  refine gr_mk1 (n := 0) hP hI hkI (by omega) (by omega) fun a1 => ?_
  simp only [wp_bind', wp_pure']
  refine gr_wr (n := 0) (by decide) hA hkA fun a2 => ?_
  simp only [wp_bind', wp_pure']
  refine gr_mk1 (n := 1) hP hI hkI (by omega) (by omega) fun a3 => ?_
  simp only [wp_bind', wp_pure']
  refine gr_wr (n := 1) (by decide) hA hkA fun a4 => ?_
  simp only [wp_bind', wp_pure']
  refine gr_mk1 (n := 2) hP hI hkI (by omega) (by omega) fun a5 => ?_
  simp only [wp_bind', wp_pure']
  refine gr_wr (n := 2) (by decide) hA hkA fun a6 => ?_
  simp only [wp_bind', wp_pure']
  refine gr_mk1 (n := 3) hP hI hkI (by omega) (by omega) fun a7 => ?_
  simp only [wp_bind', wp_pure']
  refine gr_wr (n := 3) (by decide) hA hkA fun a8 => ?_
  simp only [wp_bind', wp_pure']
  exact hq _ _
variable {p : Program} {l : Launch} {R : Room} {s : State} {m : MethodId} {args : Array Value} {below : List Frame} {meth : Method} {c : Code} {T : State} {locs : List Loc} {cells slots : Nat}
/-- the instruction at a frame whose entry links to the table's class -/
theorem gr_sem {V : Vm} {g : JFrame} {index : Nat} {rest : List Value} (hP : grid_bears e) (ht : T.topJava?.isSome) (hr : (Jvm.resolveClass g.method.cls index).Gives e.toSetting T.vm (.ok cA) V) (hsz : V.classes.size ≤ T.vm.classes.size) (hA : V.classes[cA]? = some kA) (hkA : kA.kind = .array cI (.array .int)) (hI : V.classes[cI]? = some kI) (hkI : kI.kind = .array cc .int) (hst : g.stack = .int (nI 30) :: .int (nI 4) :: rest) (h1 : T.heap.size + 5 ≤ e.platform.maxCells) (h2 : T.slotsUsed + 124 ≤ e.platform.maxSlots) {Q : Unit → Pre} (hq : ∀ acts', Q () true acts' ((gr (T.setVm V) cA cI 4).setTop { g with stack := .ref T.heap.size :: rest })) : wp (multianewarray.sem index 2) Q E e d acts (T.setTop g) := by
  have hU : gr (((T.setTop g).setVm V).setTop { g with stack := rest }) cA cI 4 = (gr (T.setVm V) cA cI 4).setTop { g with stack := rest } := by
    show gr (((T.setVm V).setTop g).setTop { g with stack := rest }) cA cI 4 = _
    rw [State.setTop_setTop]
    rfl
  have htg : (gr (T.setVm V) cA cI 4).topJava?.isSome := ht
  rw [multianewarray.sem, wp_bind', W.resolveClassAt_links (State.method?_setTop g ht) hr hsz, wp_bind', W.popN, if_neg (by decide)]
  refine ⟨g, State.topJava?_setTop' (s := T.setVm V) g ht, [.int (nI 4), .int (nI 30)], rest, rfl, hst, ?_⟩
  simp only [List.mapM_cons, List.mapM_nil, wp_bind', wp_pure']
  refine gr_make (U := ((T.setTop g).setVm V).setTop { g with stack := rest }) hP (show V.classes[cA]? = some kA from hA) hkA (show V.classes[cI]? = some kI from hI) hkI h1 h2 fun d' acts' => ?_
  rw [hU, wp_bind', W.mark, W.pushRef]
  refine ⟨_, State.topJava?_setTop' _ htg, ?_⟩
  rw [State.setTop_setTop]
  exact hq _
theorem gr_step (X : Stand p l e R s m args below meth c T locs cells slots) (hexec : p.tables.exec = Jvm.exec) {own : String} {index : Nat} (hown : s.vm.findClass own = some m.cls) (hlink : (Cond.classLink own index ("[" ++ (FieldType.array .int).toString)).before args s = true) (hname : s.vm.findClass ("[" ++ (FieldType.array .int).toString) = some cA) (hA : s.vm.classes[cA]? = some kA) (hkA : kA.kind = .array cI (.array .int)) (hI : s.vm.classes[cI]? = some kI) (hkI : kI.kind = .array cc .int) {g : JFrame} (hg : g.method = m) (hdg : decode c.code g.pc = .ok (.multianewarray index 2, 4)) {rest : List Value} (hst : g.stack = .int (nI 30) :: .int (nI 4) :: rest) (h1 : cells + 5 ≤ R.cells) (h2 : slots + 124 ≤ R.slots) :
    ∃ V : Vm, Stand p l e R s m args below meth c (gr (T.setVm V) cA cI 4) locs (cells + 5) (slots + 124) ∧ ∀ t, Steps p.tables e below ((gr (T.setVm V) cA cI 4).setTop { g with pc := g.pc + 4, stack := .ref T.heap.size :: rest }) t → Steps p.tables e below (T.setTop g) t := by
  subst hg
  obtain ⟨c0, hc0, hlk⟩ := Cond.classLink_spec hown hlink e.platform (by rw [X.admits.platform])
  obtain rfl : c0 = cA := Option.some.inj (hc0.symm.trans hname)
  obtain ⟨hgives, hwarm, -⟩ := State.classEntry (e := e) X.warmed hlk
  have hsz : (T.vm.noted g.method.cls index (.cls c0)).classes.size ≤ T.vm.classes.size := Nat.le_of_eq (Vm.size_noted ..)
  generalize T.vm.noted g.method.cls index (.cls c0) = V at hgives hwarm hsz
  obtain ⟨kA', hA', eA⟩ := hwarm.alike.2.2 _ _ hA
  obtain ⟨kI', hI', eI⟩ := hwarm.alike.2.2 _ _ hI
  have room := X.roomAbove h1 h2
  refine ⟨V, gr_stand (X.noted hwarm) c0 cI 4, fun t ht => ?_⟩
  have XF := gr_stand (X.noted hwarm) c0 cI 4
  jvm_step X.here [hexec, hdg]
  refine gr_sem (grid_bears_of X.admits) X.here.top hgives hsz hA' (by rw [eA]; exact hkA) hI' (by rw [eI]; exact hkI) hst room.1 room.2 fun acts' => ?_
  simp [jvm, XF.here.top]
  exact ht
end GR2
