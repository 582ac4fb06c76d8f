section ORD
theorem ex_sub {m u : Nat} (hu : 0 < ex m u) (w : Nat) : ex (m - 4 ^ u) w = if w = u then ex m u - 1 else ex m w := by
  have hp : ∀ k, 0 < 4 ^ k := fun k => Nat.pow_pos (by decide)
  have hle : 4 ^ u ≤ m := by
    apply Classical.byContradiction
    intro q
    have : m / 4 ^ u = 0 := Nat.div_eq_of_lt (by omega)
    unfold ex at hu; rw [this] at hu; simp at hu
  have hd : (m - 4 ^ u) / 4 ^ u = m / 4 ^ u - 1 := by
    have := Nat.sub_mul_div m (4 ^ u) 1
    rw [Nat.mul_one] at this; exact this
  unfold ex at hu ⊢
  by_cases e : w = u
  · subst e
    rw [if_pos rfl, hd]
    generalize m / 4 ^ w = x at hu ⊢
    omega
  · rw [if_neg e]
    rcases Nat.lt_or_gt_of_ne e with c | c
    · -- below
      obtain ⟨j, rfl⟩ : ∃ j, u = w + 1 + j := ⟨u - (w + 1), by omega⟩
      have e1 : 4 ^ (w + 1 + j) = 4 ^ w * (4 * 4 ^ j) := by rw [Nat.pow_add, Nat.pow_succ]; rw [Nat.mul_assoc]
      have e2 : (m - 4 ^ (w + 1 + j)) / 4 ^ w = m / 4 ^ w - 4 * 4 ^ j := by
        rw [e1]; exact Nat.sub_mul_div m (4 ^ w) (4 * 4 ^ j)
      rw [e2]
      have e3 : 4 * 4 ^ j ≤ m / 4 ^ w := by
        rw [Nat.le_div_iff_mul_le (hp w), Nat.mul_comm, ← e1]; exact hle
      have := Nat.sub_mul_mod (x := m / 4 ^ w) (k := 4 ^ j) (n := 4) e3
      exact this
    · -- above
      obtain ⟨j, rfl⟩ : ∃ j, w = u + (1 + j) := ⟨w - u - 1, by omega⟩
      rw [Nat.pow_add, ← Nat.div_div_eq_div_mul, ← Nat.div_div_eq_div_mul, hd, Nat.pow_add, ← Nat.div_div_eq_div_mul, ← Nat.div_div_eq_div_mul]
      rw [show (4 : Nat) ^ 1 = 4 from rfl]
      have hx : ∀ x : Nat, 0 < x % 4 → (x - 1) / 4 = x / 4 := fun x hx => by omega
      rw [hx _ hu]
theorem ex_big {m n v : Nat} (hm : m < 4 ^ n) (hv : n ≤ v) : ex m v = 0 := by
  unfold ex
  rw [Nat.div_eq_of_lt (Nat.lt_of_lt_of_le hm (Nat.pow_le_pow_right (by decide) hv))]
theorem ex_le_sub {m u : Nat} (hu : 0 < ex m u) : 4 ^ u ≤ m := by
  apply Classical.byContradiction
  intro q
  have : m / 4 ^ u = 0 := Nat.div_eq_of_lt (by omega)
  unfold ex at hu; rw [this] at hu; simp at hu
/-! products of edges -/
def inc : List (Nat × Nat) → Nat → Nat
  | [], _ => 0
  | e :: es, w => (if e.1 = w then 1 else 0) + (if e.2 = w then 1 else 0) + inc es w
theorem inc_app (a b : List (Nat × Nat)) (w : Nat) : inc (a ++ b) w = inc a w + inc b w := by
  induction a with
  | nil => simp [inc]
  | cons e es ih => simp only [List.cons_append, inc, ih]; omega
def okE (n N : Nat) (es : List (Nat × Nat)) : Prop := ∀ e, e ∈ es → e.1 < n ∧ e.2 < n ∧ (nb N e.1).testBit e.2 = true
def can (n N k m : Nat) : Prop := ∃ es : List (Nat × Nat), es.length = k ∧ okE n N es ∧ ∀ w, inc es w ≤ ex m w
theorem can_0 (n N m : Nat) : can n N 0 m := ⟨[], rfl, fun e h => absurd h List.not_mem_nil, fun w => Nat.zero_le _⟩
theorem can_le {n N k j m : Nat} (h : can n N k m) (hj : j ≤ k) : can n N j m := by
  obtain ⟨es, h1, h2, h3⟩ := h
  refine ⟨es.take j, by rw [List.length_take, h1]; exact Nat.min_eq_left hj, fun e he => h2 e (List.mem_of_mem_take he), fun w => ?_⟩
  have := inc_app (es.take j) (es.drop j) w
  rw [List.take_append_drop] at this
  have := h3 w
  omega
theorem can_mono {n N k m m' : Nat} (h : can n N k m) (hm : ∀ w, ex m w ≤ ex m' w) : can n N k m' := by
  obtain ⟨es, h1, h2, h3⟩ := h
  exact ⟨es, h1, h2, fun w => Nat.le_trans (h3 w) (hm w)⟩
theorem inc_sum {n N : Nat} (ok : gOK n N) : ∀ es, okE n N es → inc es 0 + inc es 1 + inc es 2 + inc es 3 + inc es 4 + inc es 5 + inc es 6 = 2 * es.length
  | [], _ => rfl
  | e :: es, h => by
    have ih := inc_sum ok es (fun x hx => h x (List.mem_cons_of_mem _ hx))
    obtain ⟨h1, h2, -⟩ := h e List.mem_cons_self
    have hn := ok.2.1
    have one : ∀ a : Nat, a < 7 → (if a = 0 then 1 else 0) + (if a = 1 then 1 else 0) + (if a = 2 then 1 else 0) + (if a = 3 then 1 else 0) + (if a = 4 then 1 else 0) + (if a = 5 then 1 else 0) + (if a = 6 then 1 else 0) = 1 := by decide
    have o1 := one e.1 (by omega)
    have o2 := one e.2 (by omega)
    simp only [inc, List.length_cons]
    omega
theorem deg_le {m : Nat} : deg m ≤ 21 := by
  have := ex_lt m 0
  have := ex_lt m 1
  have := ex_lt m 2
  have := ex_lt m 3
  have := ex_lt m 4
  have := ex_lt m 5
  have := ex_lt m 6
  unfold deg; omega
theorem can_deg {n N k m : Nat} (ok : gOK n N) (h : can n N k m) : 2 * k ≤ deg m := by
  obtain ⟨es, h1, h2, h3⟩ := h
  have := inc_sum ok es h2
  have := h3 0
  have := h3 1
  have := h3 2
  have := h3 3
  have := h3 4
  have := h3 5
  have := h3 6
  unfold deg; omega
/-- an edge is taken away, an edge is put -/
theorem can_put {n N k m u v : Nat} (hu : u < n) (hv : v < n) (he : (nb N u).testBit v = true) (huv : u ≠ v) (eu : 0 < ex m u) (ev : 0 < ex m v) (h : can n N k (m - 4 ^ u - 4 ^ v)) : can n N (k + 1) m := by
  obtain ⟨es, h1, h2, h3⟩ := h
  have ev' : 0 < ex (m - 4 ^ u) v := by rw [ex_sub eu, if_neg (Ne.symm huv)]; exact ev
  refine ⟨(u, v) :: es, by simp [h1], fun e he' => ?_, fun w => ?_⟩
  · rcases List.mem_cons.mp he' with rfl | h
    · exact ⟨hu, hv, he⟩
    · exact h2 e h
  · have := h3 w
    rw [ex_sub ev', ex_sub eu, ex_sub eu] at this
    simp only [inc]
    by_cases c1 : w = u
    · subst c1
      rw [if_neg huv, if_pos rfl] at this
      rw [if_pos rfl, if_neg (Ne.symm huv)]; omega
    · by_cases c2 : w = v
      · subst c2
        rw [if_pos rfl, if_neg c1] at this
        rw [if_neg (Ne.symm c1), if_pos rfl]; omega
      · rw [if_neg c2, if_neg c1] at this
        rw [if_neg (Ne.symm c1), if_neg (Ne.symm c2)]; omega
theorem can_take {n N k m : Nat} {e : Nat × Nat} {es : List (Nat × Nat)} (ok : gOK n N) (h1 : es.length = k + 1) (h2 : okE n N es) (h3 : ∀ w, inc es w ≤ ex m w) (he : e ∈ es) : 0 < ex m e.1 ∧ 0 < ex m e.2 ∧ e.1 ≠ e.2 ∧ e.1 < n ∧ e.2 < n ∧ (nb N e.1).testBit e.2 = true ∧ can n N k (m - 4 ^ e.1 - 4 ^ e.2) := by
  obtain ⟨a, b, rfl⟩ := List.append_of_mem he
  obtain ⟨k1, k2, k3⟩ := h2 e he
  have hn := ok.2.1
  have hne : e.1 ≠ e.2 := (ok.2.2.2 e.1 e.2 (by omega) (by omega) k3).2.2.1
  have hi : ∀ w, inc (a ++ b) w + (if e.1 = w then 1 else 0) + (if e.2 = w then 1 else 0) ≤ ex m w := by
    intro w
    have := h3 w
    rw [inc_app] at this
    rw [inc_app]
    simp only [inc] at this
    omega
  have e1 : 0 < ex m e.1 := by have := hi e.1; rw [if_pos rfl] at this; omega
  have e2 : 0 < ex m e.2 := by have := hi e.2; rw [if_pos rfl] at this; omega
  refine ⟨e1, e2, hne, k1, k2, k3, a ++ b, by simp at h1 ⊢; omega, fun x hx => h2 x ?_, fun w => ?_⟩
  · rcases List.mem_append.mp hx with h | h
    · exact List.mem_append_left _ h
    · exact List.mem_append_right _ (List.mem_cons_of_mem _ h)
  · have e2' : 0 < ex (m - 4 ^ e.1) e.2 := by rw [ex_sub e1, if_neg (Ne.symm hne)]; exact e2
    have := hi w
    rw [ex_sub e2', ex_sub e1, ex_sub e1]
    by_cases c1 : w = e.1
    · subst c1
      rw [if_neg hne, if_pos rfl]
      rw [if_pos rfl, if_neg (Ne.symm hne)] at this; omega
    · by_cases c2 : w = e.2
      · subst c2
        rw [if_pos rfl, if_neg c1]
        rw [if_neg (Ne.symm c1), if_pos rfl] at this; omega
      · rw [if_neg c2, if_neg c1]
        rw [if_neg (Ne.symm c1), if_neg (Ne.symm c2)] at this; omega
/-- the power order -/
noncomputable def ordG (n N m : Nat) : Nat → Nat
  | 0 => 0
  | k + 1 => @ite _ (can n N (k + 1) m) (Classical.propDecidable _) (k + 1) (ordG n N m k)
noncomputable def ord (n N m : Nat) : Nat := ordG n N m 10
theorem ordG_iff {n N m : Nat} : ∀ b, (∀ k, can n N k m → k ≤ b) → ∀ k, k ≤ ordG n N m b ↔ can n N k m
  | 0, hb, k => ⟨fun h => by rw [show k = 0 from Nat.le_zero.mp h]; exact can_0 n N m, fun h => hb k h⟩
  | b + 1, hb, k => by
    by_cases hc : can n N (b + 1) m
    · rw [show ordG n N m (b + 1) = b + 1 from if_pos hc]
      exact ⟨fun h => can_le hc h, fun h => hb k h⟩
    · rw [show ordG n N m (b + 1) = ordG n N m b from if_neg hc]
      exact ordG_iff b (fun k h => Nat.le_of_lt_succ (Nat.lt_of_le_of_ne (hb k h) (fun e => hc (by rw [show b + 1 = k from e.symm]; exact h)))) k
theorem ord_iff {n N m : Nat} (ok : gOK n N) (k : Nat) : k ≤ ord n N m ↔ can n N k m :=
  ordG_iff 10 (fun k h => by have := can_deg ok h; have := deg_le (m := m); omega) k
theorem ord_le {n N m : Nat} (ok : gOK n N) : ord n N m ≤ 10 := by
  have h := (ord_iff ok (ord n N m)).mp (Nat.le_refl _)
  have := can_deg ok h
  have := deg_le (m := m)
  omega
theorem ord_eq {n N m a : Nat} (ok : gOK n N) (h : ∀ k, k ≤ a ↔ can n N k m) : a = ord n N m := by
  apply Nat.le_antisymm
  · exact (ord_iff ok a).mpr ((h a).mp (Nat.le_refl _))
  · exact (h _).mpr ((ord_iff ok _).mp (Nat.le_refl _))
/-- the reference's way: any edge -/
theorem can_any {n N k m : Nat} (ok : gOK n N) : can n N (k + 1) m ↔ ∃ u v, u < v ∧ v < n ∧ (nb N u).testBit v = true ∧ 0 < ex m u ∧ 0 < ex m v ∧ can n N k (m - 4 ^ u - 4 ^ v) := by
  have hn := ok.2.1
  constructor
  · rintro ⟨es, h1, h2, h3⟩
    match es, h1 with
    | e :: es, h1 =>
      obtain ⟨a1, a2, a3, a4, a5, a6, a7⟩ := can_take ok h1 h2 h3 List.mem_cons_self
      rcases Nat.lt_or_gt_of_ne a3 with c | c
      · exact ⟨e.1, e.2, c, a5, a6, a1, a2, a7⟩
      · refine ⟨e.2, e.1, c, a4, ?_, a2, a1, ?_⟩
        · rw [ok.sym (by omega) (by omega)]; exact a6
        · rw [show m - 4 ^ e.2 - 4 ^ e.1 = m - 4 ^ e.1 - 4 ^ e.2 by omega]; exact a7
  · rintro ⟨u, v, c, hv, he, eu, ev, h⟩
    exact can_put (by omega) hv he (by omega) eu ev h
/-- the class's way: an edge at the lowest variable, or none -/
theorem can_low {n N k m l : Nat} (ok : gOK n N) (hl : l < n) (el : 0 < ex m l) (hlow : ∀ w, w < l → ex m w = 0) : can n N k m ↔ can n N k (m - 4 ^ l) ∨ ∃ j u, k = j + 1 ∧ l < u ∧ u < n ∧ (nb N l).testBit u = true ∧ 0 < ex (m - 4 ^ l) u ∧ can n N j (m - 4 ^ l - 4 ^ u) := by
  have hn := ok.2.1
  have hsub : ∀ w, ex (m - 4 ^ l) w ≤ ex m w := fun w => by rw [ex_sub el]; split <;> simp_all <;> omega
  constructor
  · rintro ⟨es, h1, h2, h3⟩
    by_cases c : inc es l < ex m l
    · left
      refine ⟨es, h1, h2, fun w => ?_⟩
      rw [ex_sub el]
      by_cases e : w = l
      · subst e; rw [if_pos rfl]; omega
      · rw [if_neg e]; exact h3 w
    · right
      have hpos : 0 < inc es l := by omega
      have hex : ∀ es : List (Nat × Nat), 0 < inc es l → ∃ e, e ∈ es ∧ (e.1 = l ∨ e.2 = l) := by
        intro es
        induction es with
        | nil => intro h; simp [inc] at h
        | cons e es ih =>
          intro h
          by_cases c1 : e.1 = l ∨ e.2 = l
          · exact ⟨e, List.mem_cons_self, c1⟩
          · simp only [not_or] at c1
            simp only [inc, if_neg c1.1, if_neg c1.2] at h
            obtain ⟨x, hx, hx2⟩ := ih (by omega)
            exact ⟨x, List.mem_cons_of_mem _ hx, hx2⟩
      obtain ⟨e, he, hel⟩ := hex es hpos
      have hk : ∃ j, k = j + 1 := by
        cases k with
        | zero => rw [List.length_eq_zero_iff.mp h1] at he; exact absurd he List.not_mem_nil
        | succ j => exact ⟨j, rfl⟩
      obtain ⟨j, rfl⟩ := hk
      obtain ⟨a1, a2, a3, a4, a5, a6, a7⟩ := can_take ok h1 h2 h3 he
      rcases hel with rfl | rfl
      · have hlt : e.1 < e.2 := by
          rcases Nat.lt_or_gt_of_ne a3 with c | c
          · exact c
          · rw [hlow e.2 c] at a2; exact absurd a2 (by omega)
        exact ⟨j, e.2, rfl, hlt, a5, a6, by rw [ex_sub a1, if_neg (Ne.symm a3)]; exact a2, a7⟩
      · have hlt : e.2 < e.1 := by
          rcases Nat.lt_or_gt_of_ne a3 with c | c
          · rw [hlow e.1 c] at a1; exact absurd a1 (by omega)
          · exact c
        refine ⟨j, e.1, rfl, hlt, a4, by rw [ok.sym (by omega) (by omega)]; exact a6, by rw [ex_sub a2, if_neg a3]; exact a1, ?_⟩
        rw [show m - 4 ^ e.2 - 4 ^ e.1 = m - 4 ^ e.1 - 4 ^ e.2 by omega]; exact a7
  · rintro (h | ⟨j, u, rfl, hlu, hu, he, eu, h⟩)
    · exact can_mono h hsub
    · refine can_put hl hu he (by omega) el ?_ h
      rw [ex_sub el, if_neg (by omega)] at eu; exact eu
theorem ord_low {n N m l : Nat} (ok : gOK n N) (hl : l < n) (el : 0 < ex m l) (hlow : ∀ w, w < l → ex m w = 0) :
    ((∃ u, l < u ∧ u < n ∧ (nb N l).testBit u = true ∧ 0 < ex (m - 4 ^ l) u ∧ ord n N (m - 4 ^ l - 4 ^ u) = ord n N (m - 4 ^ l)) → ord n N m = ord n N (m - 4 ^ l) + 1) ∧
    ((¬ ∃ u, l < u ∧ u < n ∧ (nb N l).testBit u = true ∧ 0 < ex (m - 4 ^ l) u ∧ ord n N (m - 4 ^ l - 4 ^ u) = ord n N (m - 4 ^ l)) → ord n N m = ord n N (m - 4 ^ l)) := by
  have hle : ∀ u, 0 < ex (m - 4 ^ l) u → ord n N (m - 4 ^ l - 4 ^ u) ≤ ord n N (m - 4 ^ l) := by
    intro u eu
    rw [ord_iff ok]
    refine can_mono ((ord_iff ok _).mp (Nat.le_refl _)) (fun w => ?_)
    rw [ex_sub eu]; split
    · next c => subst c; omega
    · exact Nat.le_refl _
  constructor
  · rintro ⟨u, h1, h2, h3, h4, h5⟩
    refine (ord_eq ok (fun k => ?_)).symm
    rw [can_low ok hl el hlow, ← ord_iff ok]
    constructor
    · intro hk
      by_cases c : k ≤ ord n N (m - 4 ^ l)
      · exact Or.inl c
      · exact Or.inr ⟨ord n N (m - 4 ^ l), u, by omega, h1, h2, h3, h4, (ord_iff ok _).mp (by omega)⟩
    · rintro (c | ⟨j, u', rfl, k1, k2, k3, k4, k5⟩)
      · omega
      · have := (ord_iff ok _).mpr k5
        have := hle u' k4
        omega
  · intro hz
    refine (ord_eq ok (fun k => ?_)).symm
    rw [can_low ok hl el hlow, ← ord_iff ok]
    constructor
    · intro hk; exact Or.inl hk
    · rintro (c | ⟨j, u', rfl, k1, k2, k3, k4, k5⟩)
      · exact c
      · have h1 := (ord_iff ok _).mpr k5
        have h2 := hle u' k4
        have h3 : ord n N (m - 4 ^ l - 4 ^ u') ≠ ord n N (m - 4 ^ l) := fun e => hz ⟨u', k1, k2, k3, k4, e⟩
        omega
theorem ord_0 {n N : Nat} (ok : gOK n N) : ord n N 0 = 0 := by
  have h := can_deg ok ((ord_iff ok (ord n N 0)).mp (Nat.le_refl _))
  have : deg 0 = 0 := by decide
  omega
end ORD
