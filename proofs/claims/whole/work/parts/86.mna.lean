section MNA
/-! int[4][30]: one row of four, and the four that it holds -/
def mg_i (cI : ClassId) : Cell := { cls := cI, slots := Array.replicate 30 (.int 0), vm := .none }
def mg_o (cA : ClassId) (a : Nat) : Nat → Cell
  | 0 => { cls := cA, slots := Array.replicate 4 .null, vm := .none }
  | i + 1 => (mg_o cA a i).setSlot i (.ref (a + 1 + i))
def mg_f (T : State) (cA cI : ClassId) : Nat → State
  | 0 => T.pushCell (mg_o cA T.heap.size 0)
  | i + 1 => ((mg_f T cA cI i).pushCell (mg_i cI)).setCell T.heap.size (mg_o cA T.heap.size (i + 1))
theorem mg_o_k (cA : ClassId) (a : Nat) : ∀ i, (mg_o cA a i).cls = cA ∧ (mg_o cA a i).vm = .none ∧ (mg_o cA a i).slots.size = 4
  | 0 => ⟨rfl, rfl, by simp [mg_o]⟩
  | i + 1 => by
    obtain ⟨x, y, z⟩ := mg_o_k cA a i
    exact ⟨by simp [mg_o, Cell.setSlot, x], by simp [mg_o, Cell.setSlot, y], by simp [mg_o, Cell.setSlot, z]⟩
theorem mg_f_k (T : State) (cA cI : ClassId) : ∀ i, (mg_f T cA cI i).heap.size = T.heap.size + 1 + i ∧ (mg_f T cA cI i).heap[T.heap.size]? = some (mg_o cA T.heap.size i) ∧ (mg_f T cA cI i).vm = T.vm ∧ (mg_f T cA cI i).slotsUsed = T.slotsUsed + 4 + i * 30
  | 0 => ⟨by simp [mg_f], by simp [mg_f], rfl, by simp [mg_f, mg_o]⟩
  | i + 1 => by
    obtain ⟨x, y, z, w⟩ := mg_f_k T cA cI i
    have hlt : T.heap.size < (mg_f T cA cI i).heap.size := by omega
    have hc : ((mg_f T cA cI i).pushCell (mg_i cI)).heap[T.heap.size]? = some (mg_o cA T.heap.size i) := by rw [State.heap_pushCell_of_lt (h := hlt)]; exact y
    refine ⟨?_, State.heap_setCell_self hc, by simp [mg_f, z], ?_⟩
    · simp [mg_f, State.setCell, x]; omega
    · simp [mg_f, w, mg_i]; omega
theorem mg_f_top (T : State) (g : JFrame) (cA cI : ClassId) : ∀ i, mg_f (T.setTop g) cA cI i = (mg_f T cA cI i).setTop g
  | 0 => rfl
  | i + 1 => by simp only [mg_f, mg_f_top T g cA cI i, State.heap_setTop, State.pushCell_setTop, State.setCell_setTop]
theorem mg_f_old (T : State) (cA cI : ClassId) {a : Nat} (ha : a < T.heap.size) : ∀ i, (mg_f T cA cI i).heap[a]? = T.heap[a]?
  | 0 => State.heap_pushCell_of_lt _ _ ha
  | i + 1 => by
    have k1 := (mg_f_k T cA cI i).1
    have hlt : a < (mg_f T cA cI i).heap.size := by rw [k1]; omega
    show (((mg_f T cA cI i).pushCell (mg_i cI)).setCell T.heap.size _).heap[a]? = _
    rw [State.heap_setCell_other (Nat.ne_of_gt ha), State.heap_pushCell_of_lt (h := hlt)]
    exact mg_f_old T cA cI ha i
theorem mg_f_in (T : State) (cA cI : ClassId) : ∀ i j, j < i → (mg_f T cA cI i).heap[T.heap.size + 1 + j]? = some (mg_i cI)
  | 0, _, h => absurd h (Nat.not_lt_zero _)
  | i + 1, j, h => by
    have k1 := (mg_f_k T cA cI i).1
    show (((mg_f T cA cI i).pushCell (mg_i cI)).setCell T.heap.size _).heap[T.heap.size + 1 + j]? = _
    rw [State.heap_setCell_other (show T.heap.size ≠ T.heap.size + 1 + j by omega)]
    by_cases hj : j < i
    · have hlt : T.heap.size + 1 + j < (mg_f T cA cI i).heap.size := by rw [k1]; omega
      rw [State.heap_pushCell_of_lt (h := hlt)]
      exact mg_f_in T cA cI i j hj
    · have e : j = i := by omega
      subst e
      rw [← k1]
      exact State.heap_pushCell_size _ _
theorem mg_ref (v : Value) (hv : v = .null ∨ ∃ a, v = .ref a) : fits (.array .int) v = true := by
  rcases hv with rfl | ⟨a, rfl⟩ <;> rfl
theorem mg_alloc {E : CtlPost} {e : Env} {d : Bool} {acts : List Action} {s : State} {c comp : ClassId} {k : Class} {type : FieldType} {len : Nat} {init : Value} (hk : s.vm.classes[c]? = some k) (hkind : k.kind = .array comp type) (hlimit : ¬ len > e.platform.arrayLengthLimit) (hheap : ¬ len * componentBytes type > e.platform.maxHeapBytes) (hfit : fits type init = true) (hdef : init.isDefault = true) {Q : Addr → Pre} (h1 : s.heap.size < e.platform.maxCells) (h2 : s.slotsUsed + len ≤ e.platform.maxSlots) (hq : Q s.heap.size d acts (s.pushCell { cls := c, slots := Array.replicate len init, vm := .none })) : wp (Jvm.newArray c len init) Q E e d acts s := by
  have hfits : ∀ i v, (Array.replicate len init)[i]? = some v → s.fitsSlot c .none i v = true := by
    intro i v hv
    rw [Array.getElem?_replicate] at hv
    split at hv
    · cases hv; simp [State.fitsSlot, State.slotType?, hk, hkind, hfit]
    · cases hv
  have hda : allocActs (Array.replicate len init) s.heap.size acts = acts := by
    unfold allocActs
    rw [if_pos (by rw [Array.all_replicate]; split <;> simp [hdef])]
  simp only [Jvm.newArray, Jvm.arrayFits, wp_bind', W.ask, W.ite, hlimit, if_false, wp_pure', W.theClass, hk, hkind, hheap, W.alloc, W.stop, Option.some.injEq, exists_eq_left', Array.size_replicate, hda]
  rw [if_neg (by omega)]
  exact ⟨h1, h2, hfits, hq⟩
end MNA
