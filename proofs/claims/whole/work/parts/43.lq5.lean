section LQ5
theorem sum_dig {f : Nat → Nat} : ∀ k, (∀ w, w < k → f w < 4) → ∀ v, v < k → ex (sumTo k (fun w => f w * 4 ^ w)) v = f v
  | 0, _, v, hv => absurd hv (by omega)
  | k + 1, h, v, hv => by
    have i := sum_lt4 (f := f) k (fun w hw => h w (by omega))
    have ih := sum_dig (f := f) k (fun w hw => h w (by omega))
    have hk := h k (by omega)
    simp only [sumTo]
    by_cases c : v = k
    · subst c
      unfold ex
      have p0 : 0 < 4 ^ v := Nat.pow_pos (by decide)
      rw [Nat.add_mul_div_right _ _ p0, Nat.div_eq_of_lt i]
      omega
    · have r := ih v (by omega)
      unfold ex at *
      have p0 : 0 < 4 ^ v := Nat.pow_pos (by decide)
      obtain ⟨t, ht⟩ : ∃ t, k = v + (t + 1) := ⟨k - v - 1, by omega⟩
      have e : f k * 4 ^ k = (f k * 4 ^ t * 4) * 4 ^ v := by
        rw [ht, Nat.pow_add, Nat.pow_succ, Nat.mul_comm (4 ^ v), ← Nat.mul_assoc, ← Nat.mul_assoc]
      rw [e, Nat.add_mul_div_right _ _ p0]
      generalize sumTo k (fun w => f w * 4 ^ w) / 4 ^ v = q at *
      generalize f k * 4 ^ t = z at *
      omega
theorem one_sum {v : Nat} (hv : v < 7) : sumTo 7 (fun w => (if w = v then 1 else 0) * 4 ^ w) = 4 ^ v := by
  rcases (show v = 0 ∨ v = 1 ∨ v = 2 ∨ v = 3 ∨ v = 4 ∨ v = 5 ∨ v = 6 by omega) with rfl | rfl | rfl | rfl | rfl | rfl | rfl <;> rfl
theorem add_sum {g v : Nat} (hg : g < 16384) (hv : v < 7) : g + 4 ^ v = sumTo 7 (fun w => (ex g w + if w = v then 1 else 0) * 4 ^ w) := by
  have e1 := num_sum hg
  have e2 := one_sum hv
  have e3 : g + 4 ^ v = sumTo 7 (fun w => ex g w * 4 ^ w) + sumTo 7 (fun w => (if w = v then 1 else 0) * 4 ^ w) := by omega
  rw [e3, sumTo_add]
  exact sumTo_c (fun i _ => by rw [Nat.add_mul])
theorem add_d4 {g v : Nat} (h3 : ex g v < 3) (i : Nat) : ex g i + (if i = v then 1 else 0) < 4 := by
  have := ex_lt g i
  split
  · next c => subst c; omega
  · omega
theorem ex_add {g v w : Nat} (hg : g < 16384) (hv : v < 7) (h3 : ex g v < 3) (hw : w < 7) : ex (g + 4 ^ v) w = if w = v then ex g v + 1 else ex g w := by
  rw [add_sum hg hv, sum_dig (f := fun w => ex g w + if w = v then 1 else 0) 7 (fun i _ => add_d4 h3 i) w hw]
  show ex g w + (if w = v then 1 else 0) = _
  split
  · next c => subst c; rfl
  · rfl
theorem add_lt {n g v : Nat} (hn : n ≤ 7) (hg : g < 4 ^ n) (hv : v < n) (h3 : ex g v < 3) : g + 4 ^ v < 4 ^ n := by
  have h4 := four_n hn
  rw [add_sum (by omega) (by omega), sumTo_z (f := fun w => (ex g w + if w = v then 1 else 0) * 4 ^ w) hn (fun i h1 h2 => by rw [ex_big hg h1, if_neg (by omega)]; simp)]
  exact sum_lt4 (f := fun w => ex g w + if w = v then 1 else 0) n (fun i _ => add_d4 h3 i)
/-- v stands before u in S -/
def bfr (S : List Nat) (v u : Nat) : Prop := ∃ p q, p < q ∧ q < S.length ∧ S.getD p 0 = v ∧ S.getD q 0 = u
/-- a exceeds g by just one v -/
def stpV (n a g v : Nat) : Prop := ex a v = ex g v + 1 ∧ ∀ w, w < n → w ≠ v → ex a w ≤ ex g w
/-- the exchange of one u for one v -/
def xch (g v u : Nat) : Nat := g + 4 ^ v - 4 ^ u
theorem ex_xch {n g v u w : Nat} (hn : n ≤ 7) (hg : g < 4 ^ n) (hv : v < 7) (hu : u < 7) (hvu : v ≠ u) (h3 : ex g v < 3) (h0 : 0 < ex g u) (hw : w < 7) : ex (xch g v u) w = if w = u then ex g u - 1 else if w = v then ex g v + 1 else ex g w := by
  have h4 := four_n hn
  unfold xch
  have eu : ex (g + 4 ^ v) u = ex g u := by rw [ex_add (by omega) hv h3 hu, if_neg (Ne.symm hvu)]
  rw [ex_sub (by omega), eu]
  split
  · rfl
  · exact ex_add (by omega) hv h3 hw
theorem xch_lt {n g v u : Nat} (hn : n ≤ 7) (hg : g < 4 ^ n) (hv : v < n) (h3 : ex g v < 3) : xch g v u < 4 ^ n := by
  have := add_lt hn hg hv h3
  exact Nat.lt_of_le_of_lt (Nat.sub_le _ _) this
theorem sum_1 {v : Nat} (hv : v < 7) : sumTo 7 (fun w => if w = v then 1 else 0) = 1 := by
  rcases (show v = 0 ∨ v = 1 ∨ v = 2 ∨ v = 3 ∨ v = 4 ∨ v = 5 ∨ v = 6 by omega) with rfl | rfl | rfl | rfl | rfl | rfl | rfl <;> rfl
theorem deg_xch {n g v u : Nat} (hn : n ≤ 7) (hg : g < 4 ^ n) (hv : v < 7) (hu : u < 7) (hvu : v ≠ u) (h3 : ex g v < 3) (h0 : 0 < ex g u) : deg (xch g v u) = deg g := by
  have e : sumTo 7 (fun w => ex (xch g v u) w + if w = u then 1 else 0) = sumTo 7 (fun w => ex g w + if w = v then 1 else 0) := sumTo_c (fun w hw => by
    rw [ex_xch hn hg hv hu hvu h3 h0 hw]
    by_cases c : w = u
    · subst c; rw [if_pos rfl, if_pos rfl, if_neg (Ne.symm hvu)]; omega
    · rw [if_neg c, if_neg c]
      by_cases c2 : w = v
      · subst c2; rw [if_pos rfl, if_pos rfl]
      · rw [if_neg c2, if_neg c2])
  rw [← sumTo_add, ← sumTo_add, sum_1 hu, sum_1 hv, ← deg_sum, ← deg_sum] at e
  omega
theorem bef_pre : ∀ S a g, (∃ p, p < S.length ∧ (∀ j, j < p → ex a (S.getD j 0) = ex g (S.getD j 0)) ∧ ex g (S.getD p 0) < ex a (S.getD p 0)) ↔ bef S a g
  | [], a, g => ⟨fun ⟨p, hp, _⟩ => absurd hp (by simp), fun z => z.elim⟩
  | v :: S, a, g => by
    have ih := bef_pre S a g
    constructor
    · rintro ⟨p, hp, h1, h2⟩
      cases p with
      | zero => exact Or.inl h2
      | succ p =>
        refine Or.inr ⟨h1 0 (by omega), ih.mp ⟨p, by simpa using hp, fun j hj => h1 (j + 1) (by omega), h2⟩⟩
    · rintro (z | ⟨e, z⟩)
      · exact ⟨0, by simp, fun j hj => absurd hj (by omega), z⟩
      · obtain ⟨p, hp, h1, h2⟩ := ih.mpr z
        refine ⟨p + 1, by simpa using hp, fun j hj => ?_, h2⟩
        cases j with
        | zero => exact e
        | succ j => exact h1 j (by omega)
theorem deg_one {a g v : Nat} (hv : v < 7) (hd : deg a = deg g) (h1 : ex a v = ex g v + 1) (h2 : ∀ w, w < 7 → w ≠ v → ex a w ≤ ex g w) : ∃ u, u < 7 ∧ u ≠ v ∧ ex a u + 1 = ex g u ∧ ∀ w, w < 7 → w ≠ v → w ≠ u → ex a w = ex g w := by
  have k0 : (0 : Nat) ≠ v → _ := h2 0 (by decide)
  have k1 : (1 : Nat) ≠ v → _ := h2 1 (by decide)
  have k2 : (2 : Nat) ≠ v → _ := h2 2 (by decide)
  have k3 : (3 : Nat) ≠ v → _ := h2 3 (by decide)
  have k4 : (4 : Nat) ≠ v → _ := h2 4 (by decide)
  have k5 : (5 : Nat) ≠ v → _ := h2 5 (by decide)
  have k6 : (6 : Nat) ≠ v → _ := h2 6 (by decide)
  have ex1 : ∃ u, u < 7 ∧ u ≠ v ∧ ex a u < ex g u := by
    apply Classical.byContradiction
    intro z
    have hz : ∀ w, w < 7 → w ≠ v → ex a w = ex g w := fun w hw hwv => by
      have := h2 w hw hwv
      apply Classical.byContradiction
      intro y
      exact z ⟨w, hw, hwv, by omega⟩
    have hd2 := hd
    rw [deg_sum, deg_sum] at hd2
    have e : sumTo 7 (ex a) = sumTo 7 (fun w => ex g w + if w = v then 1 else 0) := sumTo_c (fun w hw => by
      by_cases c : w = v
      · subst c; rw [if_pos rfl, h1]
      · rw [if_neg c, hz w hw c]; rfl)
    rw [e, ← sumTo_add] at hd2
    have : sumTo 7 (fun w => if w = v then 1 else 0) = 1 := by
      rcases (show v = 0 ∨ v = 1 ∨ v = 2 ∨ v = 3 ∨ v = 4 ∨ v = 5 ∨ v = 6 by omega) with rfl | rfl | rfl | rfl | rfl | rfl | rfl <;> rfl
    omega
  obtain ⟨u, hu, huv, hlt⟩ := ex1
  have key : ∀ w, w < 7 → ex a w + (if w = u then 1 else 0) ≤ ex g w + (if w = v then 1 else 0) := by
    intro w hw
    by_cases c : w = v
    · subst c; rw [if_neg (Ne.symm huv), if_pos rfl]; omega
    · by_cases c2 : w = u
      · subst c2; rw [if_pos rfl, if_neg c]; omega
      · rw [if_neg c2, if_neg c]; have := h2 w hw c; omega
  have su : ∀ v, v < 7 → sumTo 7 (fun w => if w = v then 1 else 0) = 1 := by
    intro v hv
    rcases (show v = 0 ∨ v = 1 ∨ v = 2 ∨ v = 3 ∨ v = 4 ∨ v = 5 ∨ v = 6 by omega) with rfl | rfl | rfl | rfl | rfl | rfl | rfl <;> rfl
  have tot : sumTo 7 (fun w => ex a w + (if w = u then 1 else 0)) = sumTo 7 (fun w => ex g w + (if w = v then 1 else 0)) := by
    rw [← sumTo_add, ← sumTo_add, su u hu, su v hv, ← deg_sum, ← deg_sum, hd]
  have eqs : ∀ w, w < 7 → ex a w + (if w = u then 1 else 0) = ex g w + (if w = v then 1 else 0) := by
    generalize hF : (fun w => ex a w + (if w = u then 1 else 0)) = F at tot
    generalize hH : (fun w => ex g w + (if w = v then 1 else 0)) = H at tot
    have key' : ∀ w, w < 7 → F w ≤ H w := fun w hw => by rw [← hF, ← hH]; exact key w hw
    have q : ∀ w, w < 7 → F w = H w := by
      simp only [sumTo] at tot
      have a0 := key' 0 (by decide)
      have a1 := key' 1 (by decide)
      have a2 := key' 2 (by decide)
      have a3 := key' 3 (by decide)
      have a4 := key' 4 (by decide)
      have a5 := key' 5 (by decide)
      have a6 := key' 6 (by decide)
      intro w hw
      rcases (show w = 0 ∨ w = 1 ∨ w = 2 ∨ w = 3 ∨ w = 4 ∨ w = 5 ∨ w = 6 by omega) with rfl | rfl | rfl | rfl | rfl | rfl | rfl <;> omega
    intro w hw
    have := q w hw
    rw [← hF, ← hH] at this
    exact this
  refine ⟨u, hu, huv, ?_, fun w hw hwv hwu => ?_⟩
  · have := eqs u hu
    rw [if_pos rfl, if_neg huv] at this; omega
  · have := eqs w hw
    rw [if_neg hwu, if_neg hwv] at this; omega
/-- where a colon variable comes from: some earlier one by one step, or an exchange -/
theorem col_iff {n N s i v : Nat} {S : List Nat} (ok : gOK n N) (o : isO n S) (hi : i < (srt (gnL n N s) S).length) (hv : v < n) :
    (∃ k, k < i ∧ stpV n ((srt (gnL n N s) S).getD k 0) ((srt (gnL n N s) S).getD i 0) v) ↔
    (ex ((srt (gnL n N s) S).getD i 0) v < 3 ∧ ∃ u, bfr S v u ∧ 0 < ex ((srt (gnL n N s) S).getD i 0) u ∧ s ≤ ord n N (xch ((srt (gnL n N s) S).getD i 0) v u)) := by
  have hn := ok.2.1
  have h4 := four_n hn
  have nd : (gnL n N s).Nodup := selD_nd _
  have hLi : ∀ x, x ∈ gnL n N s ↔ x < 4 ^ n ∧ deg x = 2 * s ∧ s ≤ ord n N x := fun x => selD_mem _
  have hL : ∀ x, x ∈ gnL n N s → x < 4 ^ n ∧ deg x = 2 * s ∧ s ≤ ord n N x := fun x hx => (hLi x).mp hx
  have pw := srt_bef o hn nd (fun x hx => (hL x hx).1)
  have mO : ∀ x, x ∈ srt (gnL n N s) S ↔ x ∈ gnL n N s := fun x => srt_mem S
  generalize srt (gnL n N s) S = O at *
  have hg := hL _ ((mO _).mp (getD_mem hi))
  generalize hgg : O.getD i 0 = g at *
  constructor
  · rintro ⟨k, hk, h1, h2⟩
    have ha := hL _ ((mO _).mp (getD_mem (show k < O.length by omega)))
    have hb := pw_getD pw hk hi
    rw [hgg] at hb
    generalize O.getD k 0 = a at *
    have h2' : ∀ w, w < 7 → w ≠ v → ex a w ≤ ex g w := by
      intro w hw hwv
      by_cases c : w < n
      · exact h2 w c hwv
      · rw [ex_big ha.1 (by omega)]; exact Nat.zero_le _
    obtain ⟨u, hu, huv, e1, e2⟩ := deg_one (by omega) (by omega) h1 h2'
    have h3 : ex g v < 3 := by have := ex_lt a v; omega
    have hun : u < n := Nat.lt_of_not_le (fun z => by rw [ex_big hg.1 z] at e1; omega)
    refine ⟨h3, u, ?_, by omega, ?_⟩
    · obtain ⟨p, hp, q1, q2⟩ := (bef_pre S a g).mpr hb
      have ep : S.getD p 0 = v := by
        apply Classical.byContradiction
        intro z
        have := h2' (S.getD p 0) (by have := o.2.2 _ (getD_mem hp); omega) z
        omega
      obtain ⟨q, hq, eq⟩ := getD_lt (isO_all o u hun)
      refine ⟨p, q, ?_, hq, ep, eq⟩
      apply Nat.lt_of_not_le
      intro z
      by_cases c : q = p
      · rw [← c, eq] at ep; exact huv ep
      · have := q1 q (by omega)
        rw [eq] at this; omega
    · have ea : a = xch g v u := by
        refine ex_ext (by omega) (by have := xch_lt (u := u) hn hg.1 hv h3; omega) (fun w hw => ?_)
        rw [ex_xch hn hg.1 (by omega) hu (Ne.symm huv) h3 (by omega) hw]
        split
        · next c => subst c; omega
        · split
          · next c => subst c; exact h1
          · next c1 c2 => exact e2 w hw c2 c1
      rw [← ea]; exact ha.2.2
  · rintro ⟨h3, u, ⟨p, q, hpq, hq, ep, eq⟩, h0, ho⟩
    have hp : p < S.length := by omega
    have hv7 : v < 7 := by omega
    have hun : u < n := by rw [← eq]; exact o.2.2 _ (getD_mem hq)
    have hvu : v ≠ u := by rw [← ep, ← eq]; exact pw_getD o.2.1 hpq hq
    have hx := fun w hw => ex_xch (w := w) hn hg.1 hv7 (show u < 7 by omega) hvu h3 h0 hw
    have hxl := xch_lt (u := u) hn hg.1 hv h3
    have hxd := deg_xch hn hg.1 hv7 (show u < 7 by omega) hvu h3 h0
    have hm : xch g v u ∈ O := (mO _).mpr ((hLi _).mpr ⟨hxl, by omega, ho⟩)
    have hb : bef S (xch g v u) g := by
      refine (bef_pre S _ g).mp ⟨p, hp, fun j hj => ?_, ?_⟩
      · have j1 : S.getD j 0 ≠ v := by rw [← ep]; exact pw_getD o.2.1 hj hp
        have j2 : S.getD j 0 ≠ u := by rw [← eq]; exact pw_getD o.2.1 (show j < q by omega) hq
        have j3 := o.2.2 _ (getD_mem (show j < S.length by omega))
        rw [hx _ (by omega), if_neg j2, if_neg j1]
      · rw [ep, hx v hv7, if_neg hvu, if_pos rfl]; omega
    obtain ⟨k, hk, ek⟩ := getD_lt hm
    refine ⟨k, ?_, ?_⟩
    · apply Nat.lt_of_not_le
      intro z
      by_cases c : k = i
      · rw [c, hgg] at ek
        rw [← ek] at hb
        exact bef_as S _ _ hb hb
      · have := pw_getD pw (show i < k by omega) hk
        rw [hgg, ek] at this
        exact bef_as S _ _ hb this
    · rw [ek]
      refine ⟨by rw [hx v hv7, if_neg hvu, if_pos rfl], fun w hw hwv => ?_⟩
      rw [hx w (by omega)]
      split
      · next c => subst c; omega
      · exact Nat.le_refl _
end LQ5
