section GR
/-! new int[4][30]. What the instruction leaves is told in one piece: the table lies where the heap ended, its rows behind it; n is how many of the four stand. -/
def gr_tab (cA : ClassId) (q n : Nat) : Cell := arrV cA 4 fun j => va_rf (if j < n then some (q + 1 + j) else none)
def gr_row (cI : ClassId) : Cell := arrV cI 30 fun _ => .int 0
def gr_heap (H : Heap) (cA cI : ClassId) (n : Nat) : Heap := H.push (gr_tab cA H.size n) ++ Array.replicate n (gr_row cI)
def gr (T : State) (cA cI : ClassId) (n : Nat) : State := { T with heap := gr_heap T.heap cA cI n, slotsUsed := T.slotsUsed + (4 + 30 * n) }
theorem gr_size (H : Heap) (cA cI : ClassId) (n : Nat) : (gr_heap H cA cI n).size = H.size + 1 + n := by
  rw [gr_heap, Array.size_append, Array.size_push, Array.size_replicate]
theorem gr_old {H : Heap} {cA cI : ClassId} {n a : Nat} (ha : a < H.size) : (gr_heap H cA cI n)[a]? = H[a]? := by
  have h1 : a < (H.push (gr_tab cA H.size n)).size := by rw [Array.size_push]; omega
  rw [gr_heap, Array.getElem?_append_left h1, Array.getElem?_push, if_neg (Nat.ne_of_lt ha)]
theorem gr_at (H : Heap) (cA cI : ClassId) (n : Nat) : (gr_heap H cA cI n)[H.size]? = some (gr_tab cA H.size n) := by
  have h1 : H.size < (H.push (gr_tab cA H.size n)).size := by rw [Array.size_push]; omega
  rw [gr_heap, Array.getElem?_append_left h1, Array.getElem?_push, if_pos rfl]
theorem gr_in {H : Heap} {cA cI : ClassId} {n j : Nat} (hj : j < n) : (gr_heap H cA cI n)[H.size + 1 + j]? = some (gr_row cI) := by
  have h1 : (H.push (gr_tab cA H.size n)).size ≤ H.size + 1 + j := by rw [Array.size_push]; omega
  rw [gr_heap, Array.getElem?_append_right h1, Array.size_push, Nat.add_sub_cancel_left, Array.getElem?_replicate, if_pos hj]
theorem gr_out {H : Heap} {cA cI : ClassId} {n j : Nat} (hj : n ≤ j) : (gr_heap H cA cI n)[H.size + 1 + j]? = none :=
  Array.getElem?_eq_none (by rw [gr_size]; omega)
/-- the table takes the reference of its next row -/
theorem gr_tab_s (cA : ClassId) (q n : Nat) : (gr_tab cA q n).setSlot n (.ref (q + 1 + n)) = gr_tab cA q (n + 1) := by
  rw [gr_tab, arrV_store]
  refine congrArg (arrV cA 4) (funext fun j => ?_)
  rcases Nat.lt_trichotomy j n with h | h | h
  · simp only [updV, Nat.ne_of_lt h, h, Nat.lt_succ_of_lt h, if_true, if_false]
  · subst h
    simp only [updV, Nat.lt_succ_self, if_true, va_rf]
  · simp only [updV, Nat.ne_of_gt h, Nat.lt_asymm h, show ¬ j < n + 1 by omega, if_false]
/-- a row behind the others, and its reference in the table: one row more -/
theorem gr_heap_s (H : Heap) (cA cI : ClassId) (n : Nat) : ((gr_heap H cA cI n).push (gr_row cI)).setIfInBounds H.size (gr_tab cA H.size (n + 1)) = gr_heap H cA cI (n + 1) := by
  refine Array.ext_getElem? fun a => ?_
  rw [Array.getElem?_setIfInBounds]
  by_cases e : H.size = a
  · subst e
    rw [if_pos rfl, if_pos (by rw [Array.size_push, gr_size]; omega), gr_at]
  · rw [if_neg e, Array.getElem?_push, gr_size]
    by_cases hlt : a < H.size
    · rw [if_neg (by omega), gr_old hlt, gr_old hlt]
    · obtain ⟨j, rfl⟩ : ∃ j, a = H.size + 1 + j := ⟨a - H.size - 1, by omega⟩
      by_cases hj : j < n
      · rw [if_neg (by omega), gr_in hj, gr_in (Nat.lt_succ_of_lt hj)]
      · by_cases hn : j = n
        · subst hn
          rw [if_pos rfl, gr_in (Nat.lt_succ_self j)]
        · rw [if_neg (by omega), gr_out (by omega), gr_out (by omega)]
theorem gr_zero (T : State) (cA cI : ClassId) : T.pushCell { cls := cA, slots := Array.replicate 4 .null, vm := .none } = gr T cA cI 0 := by
  have hc : ({ cls := cA, slots := Array.replicate 4 .null, vm := .none } : Cell) = gr_tab cA T.heap.size 0 := by
    rw [arrV_new, gr_tab]
    refine congrArg (arrV cA 4) (funext fun j => ?_)
    simp only [Nat.not_lt_zero, if_false, va_rf]
  have hh : gr_heap T.heap cA cI 0 = T.heap.push (gr_tab cA T.heap.size 0) := by
    rw [gr_heap, Array.replicate_zero, Array.append_empty]
  rw [hc, gr, hh, State.pushCell, gr_tab, arrV_size]
theorem gr_succ (T : State) (cA cI : ClassId) (n : Nat) : ((gr T cA cI n).pushCell (gr_row cI)).setCell T.heap.size ((gr_tab cA T.heap.size n).setSlot n (.ref (T.heap.size + 1 + n))) = gr T cA cI (n + 1) := by
  have hu : T.slotsUsed + (4 + 30 * n) + (gr_row cI).slots.size = T.slotsUsed + (4 + 30 * (n + 1)) := by
    rw [gr_row, arrV_size]; omega
  rw [gr_tab_s]
  show ({ T with heap := ((gr_heap T.heap cA cI n).push (gr_row cI)).setIfInBounds T.heap.size (gr_tab cA T.heap.size (n + 1)), slotsUsed := T.slotsUsed + (4 + 30 * n) + (gr_row cI).slots.size } : State) = _
  rw [gr_heap_s, hu, gr]
theorem gr_drop (H : Heap) (cA cI : ClassId) (n : Nat) : (((gr_heap H cA cI n).toList.drop H.size).map (·.slots.size)).sum = 4 + 30 * n := by
  have hd : (gr_heap H cA cI n).toList.drop H.size = gr_tab cA H.size n :: List.replicate n (gr_row cI) := by
    rw [gr_heap, Array.toList_append, Array.toList_push, Array.toList_replicate, List.append_assoc, ← Array.length_toList, List.drop_left]
    rfl
  rw [hd, List.map_cons, List.map_replicate, List.sum_cons, List.sum_replicate_nat, gr_tab, gr_row, arrV_size, arrV_size, Nat.mul_comm]
variable {p : Program} {l : Launch} {e : Env} {R : Room} {s : State} {m : MethodId} {args : Array Value} {below : List Frame} {meth : Method} {c : Code} {T : State} {locs : List Loc} {cells slots : Nat}
/-- nothing that was there has moved: so no place is named -/
theorem gr_same (h : At T m c below) (cA cI : ClassId) (n : Nat) : T.sameButNew ((gr T cA cI n).setVm T.vm) [] (1 + n) (4 + 30 * n) := by
  obtain ⟨f, hf⟩ := Option.isSome_iff_exists.mp h.top
  obtain ⟨r, hr⟩ := State.topJava?_eq_some.mp hf
  obtain ⟨th, hth, -⟩ := State.frames_cons hr
  have hz := gr_size T.heap cA cI n
  refine ⟨?_, ?_, ?_, ?_, Nat.le_of_eq (gr_drop T.heap cA cI n), fun a cell ha => ⟨cell, (gr_old (Array.getElem?_eq_some_iff.mp ha).1).trans ha, rfl, rfl, fun _ _ => rfl⟩⟩
  · show gr T cA cI n = ({ T.setFrames T.frames with heap := gr_heap T.heap cA cI n, slotsUsed := T.slotsUsed + (4 + 30 * n) } : State)
    rw [State.setFrames_self hth, gr]
  · show T.heap.size ≤ (gr_heap T.heap cA cI n).size
    omega
  · show (gr_heap T.heap cA cI n).size ≤ T.heap.size + (1 + n)
    omega
  · exact congrArg (T.slotsUsed + ·) (gr_drop T.heap cA cI n).symm
theorem gr_stand (X : Stand p l e R s m args below meth c T locs cells slots) (cA cI : ClassId) (n : Nat) : Stand p l e R s m args below meth c (gr T cA cI n) locs (cells + (1 + n)) (slots + (4 + 30 * n)) :=
  List.append_nil locs ▸ X.moved (T₂ := gr T cA cI n) (X.here.setHeapUsed _ _) X.tail rfl rfl (State.WarmedH.refl T) (gr_same X.here cA cI n)
end GR
