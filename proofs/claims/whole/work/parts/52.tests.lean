section TESTS
variable {G : MG} {d : Nat} {h : MH}
/-- a test: kind, first, second -/
abbrev Tst := Nat × Nat × Nat
def tg (T : List Tst) (t : Nat) : Tst := T.getD t (0, 0, 0)
def okK (t : Nat) (x : Tst) : Prop := x.1 ≤ 7 ∧ x.2.1 ≤ 21 ∧ x.2.2 ≤ 21 ∧ (x.1 = 1 → x.2.1 < 7 ∧ x.2.2 ≤ 3) ∧ (5 ≤ x.1 → x.2.1 < t ∧ x.2.2 < t) ∧ (x.1 = 7 → x.2.2 = x.2.1)
def okT (T : List Tst) : Prop := T.length ≤ 8 ∧ ∀ t, t < T.length → okK t (tg T t)
/-- a set of tests that holds t and what its members are made from -/
def clo (T : List Tst) (t p : Nat) : Prop := p < 256 ∧ p.testBit t = true ∧ ∀ u, p.testBit u = true → u ≤ t ∧ (5 ≤ (tg T u).1 → p.testBit (tg T u).2.1 = true ∧ p.testBit (tg T u).2.2 = true)
def tC (h : MH) (T : List Tst) : Prop := h.1 34 4 = nI T.length ∧ ∀ t, t < T.length → h.1 35 t = nI (tg T t).1 ∧ h.1 36 t = nI (tg T t).2.1 ∧ h.1 37 t = nI (tg T t).2.2 ∧ ∃ p, h.1 38 t = nI p ∧ clo T t p
def tR (h : MH) (T : List Tst) : Prop := h.1 67 16 = nI T.length ∧ ∀ t, t < T.length → h.1 77 (3 * t) = nI (tg T t).1 ∧ h.1 77 (3 * t + 1) = nI (tg T t).2.1 ∧ h.1 77 (3 * t + 2) = nI (if (tg T t).1 = 7 then 0 else (tg T t).2.2)
theorem tg_l {T : List Tst} {x : Tst} {t : Nat} (ht : t < T.length) : tg (T ++ [x]) t = tg T t := by
  unfold tg; rw [List.getD_eq_getElem?_getD, List.getElem?_append_left ht, ← List.getD_eq_getElem?_getD]
theorem tg_e {T : List Tst} {x : Tst} : tg (T ++ [x]) T.length = x := by
  unfold tg; rw [List.getD_eq_getElem?_getD, List.getElem?_append_right (Nat.le_refl _), Nat.sub_self]; rfl
theorem okT_s {T : List Tst} {x : Tst} (o : okT T) (hl : T.length < 8) (hx : okK T.length x) : okT (T ++ [x]) := by
  refine ⟨by rw [List.length_append]; simp; omega, fun t ht => ?_⟩
  rw [List.length_append] at ht
  by_cases c : t < T.length
  · rw [tg_l c]; exact o.2 t c
  · have e : t = T.length := by simp at ht; omega
    subst e; rw [tg_e]; exact hx
theorem clo_l {T : List Tst} {x : Tst} {t p : Nat} (ht : t < T.length) (q : clo T t p) : clo (T ++ [x]) t p := ⟨q.1, q.2.1, fun u hu => by
  have := q.2.2 u hu
  rw [tg_l (by omega)]; exact this⟩
theorem pow8 {v : Nat} (hv : v < 8) : 2 ^ v < 256 := Nat.pow_lt_pow_right (a := 2) (n := 8) (by decide) hv
theorem clo_0 {T : List Tst} {x : Tst} (hl : T.length < 8) (hx : x.1 < 5) : clo (T ++ [x]) T.length (2 ^ T.length) := by
  refine ⟨pow8 hl, Nat.testBit_two_pow_self, fun u hu => ?_⟩
  rw [Nat.testBit_two_pow, decide_eq_true_eq] at hu
  subst hu
  exact ⟨Nat.le_refl _, fun z => by rw [tg_e] at z; omega⟩
theorem clo_2 {T : List Tst} {x : Tst} {p q : Nat} (hl : T.length < 8) (ha : x.2.1 < T.length) (hb : x.2.2 < T.length) (hp : clo T x.2.1 p) (hq : clo T x.2.2 q) : clo (T ++ [x]) T.length (2 ^ T.length ||| (p ||| q)) := by
  refine ⟨Nat.or_lt_two_pow (n := 8) (pow8 hl) (Nat.or_lt_two_pow (n := 8) hp.1 hq.1), by rw [Nat.testBit_or, Nat.testBit_two_pow_self]; rfl, fun u hu => ?_⟩
  have st : ∀ w, p.testBit w = true ∨ q.testBit w = true → (2 ^ T.length ||| (p ||| q)).testBit w = true := fun w hw => by
    rw [Nat.testBit_or, Nat.testBit_or]
    rcases hw with z | z <;> simp [z]
  rw [Nat.testBit_or, Nat.testBit_or, Bool.or_eq_true, Bool.or_eq_true, Nat.testBit_two_pow, decide_eq_true_eq] at hu
  rcases hu with z | z | z
  · subst z
    refine ⟨Nat.le_refl _, fun _ => ?_⟩
    rw [tg_e]
    exact ⟨st _ (Or.inl hp.2.1), st _ (Or.inr hq.2.1)⟩
  · have r := hp.2.2 u z
    refine ⟨by omega, fun y => ?_⟩
    rw [tg_l (by omega)] at y ⊢
    exact ⟨st _ (Or.inl (r.2 y).1), st _ (Or.inl (r.2 y).2)⟩
  · have r := hq.2.2 u z
    refine ⟨by omega, fun y => ?_⟩
    rw [tg_l (by omega)] at y ⊢
    exact ⟨st _ (Or.inr (r.2 y).1), st _ (Or.inr (r.2 y).2)⟩
theorem cl_addTest_full {T : List Tst} {v : Nat} (t : tR h T) (hl : T.length = 8) (hv : v = 1) {x y z : Int32} : Cl G d M_X12_addTest [.ref 67, .int (nI v), .int x, .int y, .int z] h (qI (-3) h) := by
  subst hv
  refine ev_start 0 (lv := [some (.ref 67), some (.int (nI 1)), some (.int x), some (.int y), some (.int z)]) rfl (by decide) (Nat.le_of_ble_eq_true rfl) ?_
  refine ev_iload_n dX12_addTest_0 rfl ?_
  refine ev_if_neN 6 dX12_addTest_1 (by decide) (by omega) (fun c1 => ?_) (fun c1 => ?_)
  · refine ev_aload_n dX12_addTest_6 rfl ?_
    refine ev_getIv (t.1) fl_X12_236 rfl rfl dX12_addTest_7 ?_
    refine ev_bipush (nI 8) dX12_addTest_10 rfl ?_
    refine ev_icmp_neN 18 dX12_addTest_12 (by decide) (by omega) (by omega) (fun c12 => ?_) (fun c12 => ?_)
    · omega
    · refine ev_bipush (-3) dX12_addTest_15 rfl ?_
      refine ev_iret dX12_addTest_17 rfl ?_
      exact ⟨by with_reducible rfl, rfl⟩
  · exact absurd c1 (by decide)
theorem cl_addTest_bad {x y z : Int32} : Cl G d M_X12_addTest [.ref 67, .int (nI 0), .int x, .int y, .int z] h (qI (-1) h) := by
  refine ev_start 0 (lv := [some (.ref 67), some (.int (nI 0)), some (.int x), some (.int y), some (.int z)]) rfl (by decide) (Nat.le_of_ble_eq_true rfl) ?_
  refine ev_iload_n dX12_addTest_0 rfl ?_
  refine ev_if_neN 6 dX12_addTest_1 (by decide) (by omega) (fun c1 => ?_) (fun c1 => ?_)
  · exact absurd rfl c1
  · refine ev_iconst (-1) dX12_addTest_4 rfl ?_
    refine ev_iret dX12_addTest_5 rfl ?_
    exact ⟨by with_reducible rfl, rfl⟩
theorem cl_add_tfull {T : List Tst} {x y z : Int32} (t : tC h T) (hl : T.length = 8) : Cl G d M_X10_add [.ref 34, .int x, .int y, .int z] h (qI (-3) h) := by
  refine ev_start 1 (lv := [some (.ref 34), some (.int x), some (.int y), some (.int z), none]) rfl (by decide) (Nat.le_of_ble_eq_true rfl) ?_
  refine ev_aload_n dX10_add_0 rfl ?_
  refine ev_getIv (t.1) fl_X10_24 rfl rfl dX10_add_1 ?_
  refine ev_bipush (nI 8) dX10_add_4 rfl ?_
  refine ev_icmp_neN 12 dX10_add_6 (by decide) (by omega) (by omega) (fun c6 => ?_) (fun c6 => ?_)
  · omega
  · refine ev_bipush (-3) dX10_add_9 rfl ?_
    refine ev_iret dX10_add_11 rfl ?_
    exact ⟨by with_reducible rfl, rfl⟩
end TESTS
