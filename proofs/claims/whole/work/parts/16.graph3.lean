section GRAPH3
variable {G : MG} {d : Nat} {h : MH}
/-! an array with its count: the heap h, but the field j at p is s and the array at a is f -/
def aH (h : MH) (p j a s : Nat) (f : Nat → Int32) : MH := m_putA (m_put h p j (nI s)) a f
theorem mh_ext {h h' : MH} (h1 : ∀ k i, h.1 k i = h'.1 k i) (h2 : ∀ k i, h.2 k i = h'.2 k i) : h = h' := Prod.ext (funext fun k => funext fun i => h1 k i) (funext fun k => funext fun i => h2 k i)
theorem aH_cnt {h : MH} {p j a s : Nat} {f : Nat → Int32} (hpa : p ≠ a) : (aH h p j a s f).1 p j = nI s := by
  unfold aH; rw [ma_k hpa]; exact mp_eq _ _ _ _
theorem aH_arr {h : MH} {p j a s : Nat} {f : Nat → Int32} : (aH h p j a s f).1 a = f := ma_eq _ _ _
theorem aH_j {h : MH} {p j a s i : Nat} {f : Nat → Int32} (hpa : p ≠ a) (hi : i ≠ j) : (aH h p j a s f).1 p i = h.1 p i := by
  unfold aH; rw [ma_k hpa]; exact mp_j hi
theorem aH_k {h : MH} {p j a s k : Nat} {f : Nat → Int32} (h1 : k ≠ p) (h2 : k ≠ a) : (aH h p j a s f).1 k = h.1 k := by
  unfold aH; rw [ma_k h2, mp_k h1]
theorem aH_2 {h : MH} {p j a s : Nat} {f : Nat → Int32} : (aH h p j a s f).2 = h.2 := rfl
theorem aH_set {h : MH} {p j a s i : Nat} {f : Nat → Int32} {x : Int32} : m_put (aH h p j a s f) a i x = aH h p j a s (upd f i x) := by
  refine mh_ext (fun k q => ?_) (fun _ _ => rfl)
  by_cases e : k = a
  · subst e
    show (m_putA _ _ _).1 k q = _
    rw [ma_eq, aH_arr, aH_arr]
  · rw [mp_k e]; unfold aH; rw [ma_k e, ma_k e]
theorem aH_put {h : MH} {p j a s t : Nat} {f : Nat → Int32} (hpa : p ≠ a) : m_put (aH h p j a s f) p j (nI t) = aH h p j a t f := by
  refine mh_ext (fun k q => ?_) (fun _ _ => rfl)
  by_cases e : k = p
  · subst e
    by_cases e2 : q = j
    · subst e2; rw [mp_eq, aH_cnt hpa]
    · rw [mp_j e2, aH_j hpa e2, aH_j hpa e2]
  · rw [mp_k e]
    by_cases e3 : k = a
    · subst e3; rw [aH_arr, aH_arr]
    · rw [aH_k e e3, aH_k e e3]
theorem aH_aH {h : MH} {p j a s t : Nat} {f g : Nat → Int32} (hpa : p ≠ a) : aH (aH h p j a s f) p j a t g = aH h p j a t g := by
  refine mh_ext (fun k q => ?_) (fun _ _ => rfl)
  by_cases e : k = a
  · subst e; rw [aH_arr, aH_arr]
  · by_cases e1 : k = p
    · subst e1
      by_cases e2 : q = j
      · subst e2; rw [aH_cnt hpa, aH_cnt hpa]
      · rw [aH_j hpa e2, aH_j hpa e2, aH_j hpa e2]
    · rw [aH_k e1 e, aH_k e1 e, aH_k e1 e]
theorem aH_self {h : MH} {p j a s : Nat} (hpa : p ≠ a) (hs : h.1 p j = nI s) : aH h p j a s (h.1 a) = h := by
  refine mh_ext (fun k q => ?_) (fun _ _ => rfl)
  by_cases e : k = a
  · subst e; rw [aH_arr]
  · by_cases e1 : k = p
    · subst e1
      by_cases e2 : q = j
      · subst e2; rw [aH_cnt hpa, hs]
      · rw [aH_j hpa e2]
    · rw [aH_k e1 e]
theorem aH_put0 {h : MH} {p j a s : Nat} (hpa : p ≠ a) : m_put h p j (nI s) = aH h p j a s (h.1 a) := by
  refine mh_ext (fun k q => ?_) (fun _ _ => rfl)
  by_cases e : k = a
  · subst e; rw [aH_arr, mp_k (Ne.symm hpa)]
  · unfold aH; rw [ma_k e]
theorem rowAdd_aH {h : MH} {p s : Nat} {f : Nat → Int32} {x : Int32} : rowAdd (aH h p 1 (p + 1) s f) p s x = aH h p 1 (p + 1) (s + 1) (upd f s x) := by
  unfold rowAdd
  rw [aH_set, aH_put (by omega)]
/-- the array begins with the list -/
def hold (f : Nat → Int32) (L : List Nat) : Prop := ∀ i, i < L.length → f i = nI (L.getD i 0)
theorem hold_nil (f : Nat → Int32) : hold f [] := fun i hi => absurd hi (by simp)
theorem hold_snoc {f : Nat → Int32} {L : List Nat} {x : Nat} (h : hold f L) : hold (upd f L.length (nI x)) (L ++ [x]) := by
  intro i hi
  rw [List.length_append] at hi
  by_cases e : i = L.length
  · subst e; rw [pk_us]; simp
  · rw [pk_un e, h i (by simp at hi; omega)]
    simp at hi
    rw [List.getD_eq_getElem?_getD, List.getD_eq_getElem?_getD, List.getElem?_append_left (by omega)]
theorem hold_at {f : Nat → Int32} {L : List Nat} (h : hold f L) {i x : Nat} (hi : L[i]? = some x) : f i = nI x := by
  have := (List.getElem?_eq_some_iff.mp hi).1
  rw [h i this, List.getD_eq_getElem?_getD, hi]; rfl
/-! components -/
theorem cl_componentOf {n N v : Nat} (g : gC h n N) (ok : gOK n N) (hv : v < n) : Cl G (d + 1) M_X1_componentOf [.ref 1, .int (nI v)] h (qI (nI (itr n N (n - 1) (2 ^ v))) h) := by
  have hn := ok.2.1
  have hn1 := ok.1
  have h7 : 2 ^ v < 2 ^ 7 := pow_lt (by omega)
  have outer : ∀ (k r : Nat), r + k = n → 1 ≤ r → ∀ (S : Nat), S < 128 → itr n N k S = itr n N (n - 1) (2 ^ v) → ∀ x4 x5 : Option Value, Ev G (d + 1) M_X1_componentOf 6 [some (.ref 1), some (.int (nI v)), some (.int (nI S)), some (.int (nI r)), x4, x5] [] h (qI (nI (itr n N (n - 1) (2 ^ v))) h) := by
    intro k
    induction k with
    | zero =>
      intro r hr h1 S hS hI x4 x5
      rw [← hI, show itr n N 0 S = S from rfl]
      refine ev_iload_n dX1_componentOf_6 rfl ?_
      refine ev_aload_n dX1_componentOf_7 rfl ?_
      refine ev_getIv (g.1) fl_X1_9 rfl rfl dX1_componentOf_8 ?_
      refine ev_icmp_geN 67 dX1_componentOf_11 (by decide) (by omega) (by omega) (fun c11 => ?_) (fun c11 => ?_)
      · refine ev_iload_n dX1_componentOf_67 rfl ?_
        refine ev_iret dX1_componentOf_68 rfl ?_
        exact ⟨by with_reducible rfl, rfl⟩
      · omega
    | succ k ih =>
      intro r hr h1 S hS hI x4 x5
      have inner : ∀ (j u : Nat), u + j = n → Ev G (d + 1) M_X1_componentOf 20 [some (.ref 1), some (.int (nI v)), some (.int (nI S)), some (.int (nI r)), some (.int (nI (stp N S u))), some (.int (nI u))] [] h (qI (nI (itr n N (n - 1) (2 ^ v))) h) := by
        intro j
        induction j with
        | zero =>
          intro u hu
          obtain rfl : u = n := by omega
          refine ev_iload dX1_componentOf_20 rfl ?_
          refine ev_aload_n dX1_componentOf_22 rfl ?_
          refine ev_getIv (g.1) fl_X1_9 rfl rfl dX1_componentOf_23 ?_
          refine ev_icmp_geN 58 dX1_componentOf_26 (by decide) (by omega) (by omega) (fun c26 => ?_) (fun c26 => ?_)
          · refine ev_iload dX1_componentOf_58 rfl ?_
            refine ev_ist2 dX1_componentOf_60 (by decide) rfl ?_
            refine ev_inc3N dX1_componentOf_61 (by decide) rfl ?_
            refine ev_goto 6 dX1_componentOf_64 (by decide) ?_
            exact ih (r + 1) (by omega) (by omega) _ (stp_lt hS u) hI _ _
          · omega
        | succ j ihj =>
          intro u hu
          have t1 := tb_lt1 S u
          refine ev_iload dX1_componentOf_20 rfl ?_
          refine ev_aload_n dX1_componentOf_22 rfl ?_
          refine ev_getIv (g.1) fl_X1_9 rfl rfl dX1_componentOf_23 ?_
          refine ev_icmp_geN 58 dX1_componentOf_26 (by decide) (by omega) (by omega) (fun c26 => ?_) (fun c26 => ?_)
          · omega
          · refine ev_iload_n dX1_componentOf_29 rfl ?_
            refine ev_iload dX1_componentOf_30 rfl ?_
            refine ev_ishrN dX1_componentOf_32 (by omega) (by omega) ?_
            refine ev_iconst (nI 1) dX1_componentOf_33 rfl ?_
            refine ev_iandN dX1_componentOf_34 ?_
            refine ev_if_eqN 52 dX1_componentOf_35 (by decide) (by omega) (fun c35 => ?_) (fun c35 => ?_)
            · refine ev_inc5N dX1_componentOf_52 (by decide) rfl ?_
              refine ev_goto 20 dX1_componentOf_55 (by decide) ?_
              have q := ihj (u + 1) (by omega)
              rw [stp, if_neg (by rw [(tb_0 _ _).mp c35]; decide)] at q
              exact q
            · refine ev_iload dX1_componentOf_38 rfl ?_
              refine ev_aload_n dX1_componentOf_40 rfl ?_
              refine ev_getLv (g.2) fl_X1_15 rfl rfl dX1_componentOf_41 ?_
              refine ev_iload dX1_componentOf_44 rfl ?_
              refine ev_callS (cl_neighborsIn ok.2.2.1 (by omega)) ok_X1_neighborsIn ml_X1_58 rfl rfl (Nat.le_of_ble_eq_true rfl) dX1_componentOf_46 (kI ?_)
              refine ev_iorN dX1_componentOf_49 ?_
              refine ev_ist4 dX1_componentOf_50 (by decide) rfl ?_
              refine ev_inc5N dX1_componentOf_52 (by decide) rfl ?_
              refine ev_goto 20 dX1_componentOf_55 (by decide) ?_
              have q := ihj (u + 1) (by omega)
              rw [stp, if_pos ((tb_n0 _ _).mp c35)] at q
              exact q
      refine ev_iload_n dX1_componentOf_6 rfl ?_
      refine ev_aload_n dX1_componentOf_7 rfl ?_
      refine ev_getIv (g.1) fl_X1_9 rfl rfl dX1_componentOf_8 ?_
      refine ev_icmp_geN 67 dX1_componentOf_11 (by decide) (by omega) (by omega) (fun c11 => ?_) (fun c11 => ?_)
      · omega
      · refine ev_iload_n dX1_componentOf_14 rfl ?_
        refine ev_ist4 dX1_componentOf_15 (by decide) rfl ?_
        refine ev_iconst (nI 0) dX1_componentOf_17 rfl ?_
        refine ev_ist5 dX1_componentOf_18 (by decide) rfl ?_
        exact inner n 0 (by omega)
  have e1 : 1 * 2 ^ v = 2 ^ v := Nat.one_mul _
  refine ev_start 4 (lv := [some (.ref 1), some (.int (nI v)), none, none, none, none]) rfl (by decide) (Nat.le_of_ble_eq_true rfl) ?_
  refine ev_iconst (nI 1) dX1_componentOf_0 rfl ?_
  refine ev_iload_n dX1_componentOf_1 rfl ?_
  refine ev_ishlN dX1_componentOf_2 (by omega) (by omega) ?_
  rw [e1]
  refine ev_ist2 dX1_componentOf_3 (by decide) rfl ?_
  refine ev_iconst (nI 1) dX1_componentOf_4 rfl ?_
  refine ev_ist3 dX1_componentOf_5 (by decide) rfl ?_
  exact outer (n - 1) 1 (by omega) (by omega) _ h7 rfl _ _
def cst (n N : Nat) : Nat → Nat × Nat
  | 0 => (0, 0)
  | v + 1 => if (cst n N v).2.testBit v = true then cst n N v else ((cst n N v).1 + 1, (cst n N v).2 ||| itr n N (n - 1) (2 ^ v))
theorem cst_lt {n N : Nat} (hn : n ≤ 7) : ∀ v, v ≤ n → (cst n N v).2 < 128 ∧ (cst n N v).1 ≤ v
  | 0, _ => ⟨by show (0 : Nat) < 128; decide, Nat.le_refl _⟩
  | v + 1, h => by
    have ih := cst_lt (N := N) hn v (by omega)
    have p1 : 2 ^ v < 2 ^ 7 := pow_lt (by omega)
    unfold cst
    split
    · exact ⟨ih.1, by omega⟩
    · exact ⟨or_lt7 ih.1 (itr_lt _ p1), by show _ + 1 ≤ _; omega⟩
theorem cl_componentTotal {n N : Nat} (g : gC h n N) (ok : gOK n N) : Cl G (d + 2) M_X1_componentTotal [.ref 1] h (qI (nI (cst n N n).1) h) := by
  have hn := ok.2.1
  have t2 := two_n hn
  have t3 := two_pos n
  have loop : ∀ (k v : Nat), v + k = n → Ev G (d + 2) M_X1_componentTotal 9 [some (.ref 1), some (.int (nI (andn (2 ^ n - 1) (cst n N v).2))), some (.int (nI (cst n N v).1)), some (.int (nI v))] [] h (qI (nI (cst n N n).1) h) := by
    intro k
    induction k with
    | zero =>
      intro v hv
      obtain rfl : v = n := by omega
      refine ev_iload_n dX1_componentTotal_9 rfl ?_
      refine ev_aload_n dX1_componentTotal_10 rfl ?_
      refine ev_getIv (g.1) fl_X1_9 rfl rfl dX1_componentTotal_11 ?_
      refine ev_icmp_geN 44 dX1_componentTotal_14 (by decide) (by omega) (by omega) (fun c14 => ?_) (fun c14 => ?_)
      · refine ev_iload_n dX1_componentTotal_44 rfl ?_
        refine ev_iret dX1_componentTotal_45 rfl ?_
        exact ⟨by with_reducible rfl, rfl⟩
      · omega
    | succ k ih =>
      intro v hv
      have hc := cst_lt (n := n) (N := N) hn v (by omega)
      have t1 := tb_lt1 (andn (2 ^ n - 1) (cst n N v).2) v
      have a1 : andn (2 ^ n - 1) (cst n N v).2 < 128 := andn_lt (by omega)
      have hbit : (andn (2 ^ n - 1) (cst n N v).2).testBit v = !(cst n N v).2.testBit v := by
        rw [andn_bit, all_bit]; simp [show v < n by omega]
      have q := ih (v + 1) (by omega)
      refine ev_iload_n dX1_componentTotal_9 rfl ?_
      refine ev_aload_n dX1_componentTotal_10 rfl ?_
      refine ev_getIv (g.1) fl_X1_9 rfl rfl dX1_componentTotal_11 ?_
      refine ev_icmp_geN 44 dX1_componentTotal_14 (by decide) (by omega) (by omega) (fun c14 => ?_) (fun c14 => ?_)
      · omega
      · refine ev_iload_n dX1_componentTotal_17 rfl ?_
        refine ev_iload_n dX1_componentTotal_18 rfl ?_
        refine ev_ishrN dX1_componentTotal_19 (by omega) (by omega) ?_
        refine ev_iconst (nI 1) dX1_componentTotal_20 rfl ?_
        refine ev_iandN dX1_componentTotal_21 ?_
        refine ev_if_eqN 38 dX1_componentTotal_22 (by decide) (by omega) (fun c22 => ?_) (fun c22 => ?_)
        · refine ev_inc3N dX1_componentTotal_38 (by decide) rfl ?_
          refine ev_goto 9 dX1_componentTotal_41 (by decide) ?_
          rw [tb_0, hbit] at c22
          rw [cst, if_pos (by simpa using c22)] at q
          exact q
        · refine ev_inc2N dX1_componentTotal_25 (by decide) rfl ?_
          refine ev_iload_n dX1_componentTotal_28 rfl ?_
          refine ev_aload_n dX1_componentTotal_29 rfl ?_
          refine ev_iload_n dX1_componentTotal_30 rfl ?_
          refine ev_callV (cl_componentOf g ok (by omega)) ok_X1_componentOf ml_X1_54 rfl rfl rfl rfl (Nat.le_of_ble_eq_true rfl) dX1_componentTotal_31 (kI ?_)
          refine ev_iconst (-1) dX1_componentTotal_34 rfl ?_
          refine ev_ixor dX1_componentTotal_35 ?_
          refine ev_iandC dX1_componentTotal_36 ?_
          refine ev_ist1 dX1_componentTotal_37 (by decide) rfl ?_
          refine ev_inc3N dX1_componentTotal_38 (by decide) rfl ?_
          refine ev_goto 9 dX1_componentTotal_41 (by decide) ?_
          rw [tb_0, hbit] at c22
          rw [cst, if_neg (by simpa using c22)] at q
          have e : andn (andn (2 ^ n - 1) (cst n N v).2) (itr n N (n - 1) (2 ^ v)) = andn (2 ^ n - 1) ((cst n N v).2 ||| itr n N (n - 1) (2 ^ v)) := by
            apply Nat.eq_of_testBit_eq
            intro i
            rw [andn_bit, andn_bit, andn_bit, Nat.testBit_or]
            cases (2 ^ n - 1).testBit i <;> cases (cst n N v).2.testBit i <;> cases (itr n N (n - 1) (2 ^ v)).testBit i <;> rfl
          rw [e]
          exact q
  refine ev_start 3 (lv := [some (.ref 1), none, none, none]) rfl (by decide) (Nat.le_of_ble_eq_true rfl) ?_
  refine ev_aload_n dX1_componentTotal_0 rfl ?_
  refine ev_callV (cl_allVerticesC g hn) ok_X1_allVertices ml_X1_50 rfl rfl rfl rfl (Nat.le_of_ble_eq_true rfl) dX1_componentTotal_1 (kI ?_)
  refine ev_ist1 dX1_componentTotal_4 (by decide) rfl ?_
  refine ev_iconst (nI 0) dX1_componentTotal_5 rfl ?_
  refine ev_ist2 dX1_componentTotal_6 (by decide) rfl ?_
  refine ev_iconst (nI 0) dX1_componentTotal_7 rfl ?_
  refine ev_ist3 dX1_componentTotal_8 (by decide) rfl ?_
  have q := loop n 0 (by omega)
  have e : andn (2 ^ n - 1) (cst n N 0).2 = 2 ^ n - 1 := by
    show andn (2 ^ n - 1) 0 = _
    unfold andn; simp
  rw [e] at q
  exact q
theorem cl_reachable {n N v : Nat} (g : gM h n N) (ok : gOK n N) (hv : v < n) : Cl G d M_X12_reachable [.ref 67, .int (nI (2 ^ v))] h (qI (nI (itr n N (n - 1) (2 ^ v))) h) := by
  have hn := ok.2.1
  have h7 : 2 ^ v < 2 ^ 7 := pow_lt (by omega)
  have outer : ∀ (k i : Nat), i + k = n - 1 → ∀ x4 x5 : Option Value, Ev G d M_X12_reachable 4 [some (.ref 67), some (.int (nI (2 ^ v))), some (.int (nI (itr n N i (2 ^ v)))), some (.int (nI 1)), x4, x5] [] h (qI (nI (itr n N (n - 1) (2 ^ v))) h) := by
    intro k
    induction k with
    | zero =>
      intro i hi x4 x5
      obtain rfl : i = n - 1 := by omega
      have hS := itr_lt (n := n) (N := N) (n - 1) (S := 2 ^ v) h7
      have hf := itr_fix ok hv
      have inner : ∀ (j u : Nat), u + j = n → Ev G d M_X12_reachable 14 [some (.ref 67), some (.int (nI (2 ^ v))), some (.int (nI (itr n N (n - 1) (2 ^ v)))), some (.int (nI 1)), some (.int (nI (stp N (itr n N (n - 1) (2 ^ v)) u))), some (.int (nI u))] [] h (qI (nI (itr n N (n - 1) (2 ^ v))) h) := by
        intro j
        induction j with
        | zero =>
          intro u hu
          obtain rfl : u = n := by omega
          rw [hf]
          refine ev_iload dX12_reachable_14 rfl ?_
          refine ev_aload_n dX12_reachable_16 rfl ?_
          refine ev_getIv (g.1) fl_X12_9 rfl rfl dX12_reachable_17 ?_
          refine ev_icmp_geN 55 dX12_reachable_20 (by decide) (by omega) (by omega) (fun c20 => ?_) (fun c20 => ?_)
          · refine ev_iload dX12_reachable_55 rfl ?_
            refine ev_iload_n dX12_reachable_57 rfl ?_
            refine ev_icmp_eqN 65 dX12_reachable_58 (by decide) (by omega) (by omega) (fun c58 => ?_) (fun c58 => ?_)
            · refine ev_iconst (nI 0) dX12_reachable_65 rfl ?_
              refine ev_ist3 dX12_reachable_66 (by decide) rfl ?_
              refine ev_iload dX12_reachable_67 rfl ?_
              refine ev_ist2 dX12_reachable_69 (by decide) rfl ?_
              refine ev_goto 4 dX12_reachable_70 (by decide) ?_
              refine ev_iload_n dX12_reachable_4 rfl ?_
              refine ev_if_eqN 73 dX12_reachable_5 (by decide) (by omega) (fun c5 => ?_) (fun c5 => ?_)
              · refine ev_iload_n dX12_reachable_73 rfl ?_
                refine ev_iret dX12_reachable_74 rfl ?_
                exact ⟨by with_reducible rfl, rfl⟩
              · exact absurd rfl c5
            · exact absurd rfl c58
          · omega
        | succ j ihj =>
          intro u hu
          have t1 := tb_lt1 (itr n N (n - 1) (2 ^ v)) u
          have q := ihj (u + 1) (by omega)
          refine ev_iload dX12_reachable_14 rfl ?_
          refine ev_aload_n dX12_reachable_16 rfl ?_
          refine ev_getIv (g.1) fl_X12_9 rfl rfl dX12_reachable_17 ?_
          refine ev_icmp_geN 55 dX12_reachable_20 (by decide) (by omega) (by omega) (fun c20 => ?_) (fun c20 => ?_)
          · omega
          · refine ev_iload dX12_reachable_23 rfl ?_
            refine ev_iload_n dX12_reachable_25 rfl ?_
            refine ev_iload dX12_reachable_26 rfl ?_
            refine ev_ishrN dX12_reachable_28 (by omega) (by omega) ?_
            refine ev_iconst (nI 1) dX12_reachable_29 rfl ?_
            refine ev_iandN dX12_reachable_30 ?_
            refine ev_iconst (nI 1) dX12_reachable_31 rfl ?_
            refine ev_icmp_neN 45 dX12_reachable_32 (by decide) (by omega) (by omega) (fun c32 => ?_) (fun c32 => ?_)
            · refine ev_iconst (nI 0) dX12_reachable_45 rfl ?_
              refine ev_iorN dX12_reachable_46 ?_
              refine ev_ist4 dX12_reachable_47 (by decide) rfl ?_
              refine ev_inc5N dX12_reachable_49 (by decide) rfl ?_
              refine ev_goto 14 dX12_reachable_52 (by decide) ?_
              rw [stp, if_neg (by rw [(tb_n1 _ _).mp c32]; decide)] at q
              rw [Nat.or_zero]
              exact q
            · refine ev_aload_n dX12_reachable_35 rfl ?_
              refine ev_getR fl_X12_15 rfl rfl dX12_reachable_36 ?_
              refine ev_iload dX12_reachable_39 rfl ?_
              refine ev_ialdv (g.2 u (by omega)) rfl dX12_reachable_41 (by omega) (by omega) ?_
              refine ev_goto 46 dX12_reachable_42 (by decide) ?_
              refine ev_iorN dX12_reachable_46 ?_
              refine ev_ist4 dX12_reachable_47 (by decide) rfl ?_
              refine ev_inc5N dX12_reachable_49 (by decide) rfl ?_
              refine ev_goto 14 dX12_reachable_52 (by decide) ?_
              rw [stp, if_pos ((tb_iff _ _).mp c32)] at q
              exact q
      refine ev_iload_n dX12_reachable_4 rfl ?_
      refine ev_if_eqN 73 dX12_reachable_5 (by decide) (by omega) (fun c5 => ?_) (fun c5 => ?_)
      · exact absurd c5 (by decide)
      · refine ev_iload_n dX12_reachable_8 rfl ?_
        refine ev_ist4 dX12_reachable_9 (by decide) rfl ?_
        refine ev_iconst (nI 0) dX12_reachable_11 rfl ?_
        refine ev_ist5 dX12_reachable_12 (by decide) rfl ?_
        exact inner n 0 (by omega)
    | succ k ih =>
      intro i hi x4 x5
      have hS := itr_lt (n := n) (N := N) i (S := 2 ^ v) h7
      have inner : ∀ (j u : Nat), u + j = n → Ev G d M_X12_reachable 14 [some (.ref 67), some (.int (nI (2 ^ v))), some (.int (nI (itr n N i (2 ^ v)))), some (.int (nI 1)), some (.int (nI (stp N (itr n N i (2 ^ v)) u))), some (.int (nI u))] [] h (qI (nI (itr n N (n - 1) (2 ^ v))) h) := by
        intro j
        induction j with
        | zero =>
          intro u hu
          obtain rfl : u = n := by omega
          have l1 := stp_lt (N := N) hS u
          refine ev_iload dX12_reachable_14 rfl ?_
          refine ev_aload_n dX12_reachable_16 rfl ?_
          refine ev_getIv (g.1) fl_X12_9 rfl rfl dX12_reachable_17 ?_
          refine ev_icmp_geN 55 dX12_reachable_20 (by decide) (by omega) (by omega) (fun c20 => ?_) (fun c20 => ?_)
          · refine ev_iload dX12_reachable_55 rfl ?_
            refine ev_iload_n dX12_reachable_57 rfl ?_
            refine ev_icmp_eqN 65 dX12_reachable_58 (by decide) (by omega) (by omega) (fun c58 => ?_) (fun c58 => ?_)
            · refine ev_iconst (nI 0) dX12_reachable_65 rfl ?_
              refine ev_ist3 dX12_reachable_66 (by decide) rfl ?_
              refine ev_iload dX12_reachable_67 rfl ?_
              refine ev_ist2 dX12_reachable_69 (by decide) rfl ?_
              refine ev_goto 4 dX12_reachable_70 (by decide) ?_
              rw [c58]
              have e := itr_eq ok hv c58
              rw [← e]
              exact ev_iload_n dX12_reachable_4 rfl (ev_if_eqN 73 dX12_reachable_5 (by decide) (by omega) (fun _ => ev_iload_n dX12_reachable_73 rfl (ev_iret dX12_reachable_74 rfl ⟨by with_reducible rfl, rfl⟩)) (fun z => absurd rfl z))
            · refine ev_iconst (nI 1) dX12_reachable_61 rfl ?_
              refine ev_goto 66 dX12_reachable_62 (by decide) ?_
              refine ev_ist3 dX12_reachable_66 (by decide) rfl ?_
              refine ev_iload dX12_reachable_67 rfl ?_
              refine ev_ist2 dX12_reachable_69 (by decide) rfl ?_
              refine ev_goto 4 dX12_reachable_70 (by decide) ?_
              have q := ih (i + 1) (by omega) (some (.int (nI (stp N (itr u N i (2 ^ v)) u)))) (some (.int (nI u)))
              rw [itr_s] at q
              exact q
          · omega
        | succ j ihj =>
          intro u hu
          have t1 := tb_lt1 (itr n N i (2 ^ v)) u
          have q := ihj (u + 1) (by omega)
          refine ev_iload dX12_reachable_14 rfl ?_
          refine ev_aload_n dX12_reachable_16 rfl ?_
          refine ev_getIv (g.1) fl_X12_9 rfl rfl dX12_reachable_17 ?_
          refine ev_icmp_geN 55 dX12_reachable_20 (by decide) (by omega) (by omega) (fun c20 => ?_) (fun c20 => ?_)
          · omega
          · refine ev_iload dX12_reachable_23 rfl ?_
            refine ev_iload_n dX12_reachable_25 rfl ?_
            refine ev_iload dX12_reachable_26 rfl ?_
            refine ev_ishrN dX12_reachable_28 (by omega) (by omega) ?_
            refine ev_iconst (nI 1) dX12_reachable_29 rfl ?_
            refine ev_iandN dX12_reachable_30 ?_
            refine ev_iconst (nI 1) dX12_reachable_31 rfl ?_
            refine ev_icmp_neN 45 dX12_reachable_32 (by decide) (by omega) (by omega) (fun c32 => ?_) (fun c32 => ?_)
            · refine ev_iconst (nI 0) dX12_reachable_45 rfl ?_
              refine ev_iorN dX12_reachable_46 ?_
              refine ev_ist4 dX12_reachable_47 (by decide) rfl ?_
              refine ev_inc5N dX12_reachable_49 (by decide) rfl ?_
              refine ev_goto 14 dX12_reachable_52 (by decide) ?_
              rw [stp, if_neg (by rw [(tb_n1 _ _).mp c32]; decide)] at q
              rw [Nat.or_zero]
              exact q
            · refine ev_aload_n dX12_reachable_35 rfl ?_
              refine ev_getR fl_X12_15 rfl rfl dX12_reachable_36 ?_
              refine ev_iload dX12_reachable_39 rfl ?_
              refine ev_ialdv (g.2 u (by omega)) rfl dX12_reachable_41 (by omega) (by omega) ?_
              refine ev_goto 46 dX12_reachable_42 (by decide) ?_
              refine ev_iorN dX12_reachable_46 ?_
              refine ev_ist4 dX12_reachable_47 (by decide) rfl ?_
              refine ev_inc5N dX12_reachable_49 (by decide) rfl ?_
              refine ev_goto 14 dX12_reachable_52 (by decide) ?_
              rw [stp, if_pos ((tb_iff _ _).mp c32)] at q
              exact q
      refine ev_iload_n dX12_reachable_4 rfl ?_
      refine ev_if_eqN 73 dX12_reachable_5 (by decide) (by omega) (fun c5 => ?_) (fun c5 => ?_)
      · exact absurd c5 (by decide)
      · refine ev_iload_n dX12_reachable_8 rfl ?_
        refine ev_ist4 dX12_reachable_9 (by decide) rfl ?_
        refine ev_iconst (nI 0) dX12_reachable_11 rfl ?_
        refine ev_ist5 dX12_reachable_12 (by decide) rfl ?_
        exact inner n 0 (by omega)
  refine ev_start 4 (lv := [some (.ref 67), some (.int (nI (2 ^ v))), none, none, none, none]) rfl (by decide) (Nat.le_of_ble_eq_true rfl) ?_
  refine ev_iload_n dX12_reachable_0 rfl ?_
  refine ev_ist2 dX12_reachable_1 (by decide) rfl ?_
  refine ev_iconst (nI 1) dX12_reachable_2 rfl ?_
  refine ev_ist3 dX12_reachable_3 (by decide) rfl ?_
  exact outer (n - 1) 0 (by omega) _ _
theorem cl_componentCountM {n N : Nat} (g : gM h n N) (ok : gOK n N) : Cl G (d + 1) M_X12_componentCount [.ref 67] h (qI (nI (cst n N n).1) h) := by
  have hn := ok.2.1
  have loop : ∀ (k v : Nat), v + k = n → Ev G (d + 1) M_X12_componentCount 6 [some (.ref 67), some (.int (nI (cst n N v).1)), some (.int (nI (cst n N v).2)), some (.int (nI v))] [] h (qI (nI (cst n N n).1) h) := by
    intro k
    induction k with
    | zero =>
      intro v hv
      obtain rfl : v = n := by omega
      refine ev_iload_n dX12_componentCount_6 rfl ?_
      refine ev_aload_n dX12_componentCount_7 rfl ?_
      refine ev_getIv (g.1) fl_X12_9 rfl rfl dX12_componentCount_8 ?_
      refine ev_icmp_geN 41 dX12_componentCount_11 (by decide) (by omega) (by omega) (fun c11 => ?_) (fun c11 => ?_)
      · refine ev_iload_n dX12_componentCount_41 rfl ?_
        refine ev_iret dX12_componentCount_42 rfl ?_
        exact ⟨by with_reducible rfl, rfl⟩
      · omega
    | succ k ih =>
      intro v hv
      have hc := cst_lt (n := n) (N := N) hn v (by omega)
      have t1 := tb_lt1 (cst n N v).2 v
      have p1 : 2 ^ v < 2 ^ 7 := pow_lt (by omega)
      have e1 : 1 * 2 ^ v = 2 ^ v := Nat.one_mul _
      have q := ih (v + 1) (by omega)
      refine ev_iload_n dX12_componentCount_6 rfl ?_
      refine ev_aload_n dX12_componentCount_7 rfl ?_
      refine ev_getIv (g.1) fl_X12_9 rfl rfl dX12_componentCount_8 ?_
      refine ev_icmp_geN 41 dX12_componentCount_11 (by decide) (by omega) (by omega) (fun c11 => ?_) (fun c11 => ?_)
      · omega
      · refine ev_iload_n dX12_componentCount_14 rfl ?_
        refine ev_iload_n dX12_componentCount_15 rfl ?_
        refine ev_ishrN dX12_componentCount_16 (by omega) (by omega) ?_
        refine ev_iconst (nI 1) dX12_componentCount_17 rfl ?_
        refine ev_iandN dX12_componentCount_18 ?_
        refine ev_if_neN 35 dX12_componentCount_19 (by decide) (by omega) (fun c19 => ?_) (fun c19 => ?_)
        · refine ev_inc3N dX12_componentCount_35 (by decide) rfl ?_
          refine ev_goto 6 dX12_componentCount_38 (by decide) ?_
          rw [cst, if_pos ((tb_n0 _ _).mp c19)] at q
          exact q
        · refine ev_inc1N dX12_componentCount_22 (by decide) rfl ?_
          refine ev_iload_n dX12_componentCount_25 rfl ?_
          refine ev_aload_n dX12_componentCount_26 rfl ?_
          refine ev_iconst (nI 1) dX12_componentCount_27 rfl ?_
          refine ev_iload_n dX12_componentCount_28 rfl ?_
          refine ev_ishlN dX12_componentCount_29 (by omega) (by omega) ?_
          rw [e1]
          refine ev_callV (cl_reachable g ok (by omega)) ok_X12_reachable ml_X12_113 rfl rfl rfl rfl (Nat.le_of_ble_eq_true rfl) dX12_componentCount_30 (kI ?_)
          refine ev_iorN dX12_componentCount_33 ?_
          refine ev_ist2 dX12_componentCount_34 (by decide) rfl ?_
          refine ev_inc3N dX12_componentCount_35 (by decide) rfl ?_
          refine ev_goto 6 dX12_componentCount_38 (by decide) ?_
          rw [cst, if_neg (by rw [(tb_0 _ _).mp c19]; decide)] at q
          exact q
  refine ev_start 3 (lv := [some (.ref 67), none, none, none]) rfl (by decide) (Nat.le_of_ble_eq_true rfl) ?_
  refine ev_iconst (nI 0) dX12_componentCount_0 rfl ?_
  refine ev_ist1 dX12_componentCount_1 (by decide) rfl ?_
  refine ev_iconst (nI 0) dX12_componentCount_2 rfl ?_
  refine ev_ist2 dX12_componentCount_3 (by decide) rfl ?_
  refine ev_iconst (nI 0) dX12_componentCount_4 rfl ?_
  refine ev_ist3 dX12_componentCount_5 (by decide) rfl ?_
  exact loop n 0 (by omega)
end GRAPH3
