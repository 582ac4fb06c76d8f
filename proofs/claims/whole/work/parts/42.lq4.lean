section LQ4
variable {G : MG} {d : Nat} {h : MH}
theorem ins_getD {A : List Nat} {k m j : Nat} (hk : k ≤ A.length) : (A.take k ++ m :: A.drop k).getD j 0 = if j < k then A.getD j 0 else if j = k then m else A.getD (j - 1) 0 := by
  simp only [List.getD_eq_getElem?_getD]
  have lt : (A.take k).length = k := by rw [List.length_take]; omega
  by_cases c : j < k
  · rw [if_pos c, List.getElem?_append_left (by omega), List.getElem?_take, if_pos c]
  · rw [if_neg c, List.getElem?_append_right (by omega), lt]
    by_cases c2 : j = k
    · rw [if_pos c2, c2, Nat.sub_self]; rfl
    · rw [if_neg c2]
      obtain ⟨t, ht⟩ : ∃ t, j - k = t + 1 := ⟨j - k - 1, by omega⟩
      rw [ht, List.getElem?_cons_succ, List.getElem?_drop, show k + t = j - 1 by omega]
theorem getD_lt {A : List Nat} {x : Nat} (h : x ∈ A) : ∃ j, j < A.length ∧ A.getD j 0 = x := by
  obtain ⟨j, hj, e⟩ := List.getElem_of_mem h
  exact ⟨j, hj, by rw [List.getD_eq_getElem?_getD, List.getElem?_eq_getElem hj]; exact e⟩
theorem pw_getD {R : Nat → Nat → Prop} {A : List Nat} (p : A.Pairwise R) {i j : Nat} (hij : i < j) (hj : j < A.length) : R (A.getD i 0) (A.getD j 0) := by
  rw [List.getD_eq_getElem?_getD, List.getElem?_eq_getElem (show i < A.length by omega), List.getD_eq_getElem?_getD, List.getElem?_eq_getElem hj]
  exact List.pairwise_iff_getElem.mp p i j _ _ hij
theorem ins_pw {n m k : Nat} {S A : List Nat} (o : isO n S) (hn : n ≤ 7) (p : A.Pairwise (bef S)) (hk : k ≤ A.length) (hA : ∀ x, x ∈ A → x < 4 ^ n) (hm : m < 4 ^ n) (hne : ∀ x, x ∈ A → x ≠ m) (up : ∀ j, k ≤ j → j < A.length → bef S m (A.getD j 0)) (dn : k = 0 ∨ ¬ bef S m (A.getD (k - 1) 0)) : (A.take k ++ m :: A.drop k).Pairwise (bef S) := by
  have p' := p
  rw [← List.take_append_drop k A, List.pairwise_append] at p'
  rw [List.pairwise_append, List.pairwise_cons]
  have hd : ∀ b, b ∈ A.drop k → bef S m b := by
    intro b hb
    obtain ⟨j, hj, e⟩ := getD_lt hb
    rw [List.length_drop] at hj
    rw [List.getD_eq_getElem?_getD, List.getElem?_drop, ← List.getD_eq_getElem?_getD] at e
    rw [← e]
    exact up (k + j) (by omega) (by omega)
  refine ⟨p'.1, ⟨hd, p'.2.1⟩, fun a ha b hb => ?_⟩
  rcases List.mem_cons.mp hb with rfl | z
  · obtain ⟨j, hj, e⟩ := getD_lt ha
    rw [List.length_take] at hj
    rw [List.getD_eq_getElem?_getD, List.getElem?_take, if_pos (by omega), ← List.getD_eq_getElem?_getD] at e
    have haA := List.mem_of_mem_take ha
    rcases bef_ne o hn (hA a haA) hm (hne a haA) with q | q
    · exact q
    · exfalso
      rcases dn with w | w
      · omega
      · by_cases c : j = k - 1
        · rw [← c, e] at w; exact w q
        · have := pw_getD p (show j < k - 1 by omega) (by omega)
          rw [e] at this
          exact w (bef_tr S _ _ _ q this)
  · exact p'.2.2 a ha b z
theorem cl_sortGenerators {n N s : Nat} {S : List Nat} (g : gM h n N) (ok : gOK n N) (c : cacheM h n N) (hs : s ≤ 3) (hS : hold (h.1 76) S) (o : isO n S) : Cl G (d + 4) M_X12_sortGenerators [.ref 67, .int (nI s)] h (fun rv h' => rv = none ∧ mod (fun k => k ≠ 71 ∧ k ≠ 72 ∧ k ≠ 73 ∧ k ≠ 75) (fun j => j ≠ 5 ∧ j ≠ 7 ∧ j ≠ 13) h h' ∧ tM h' n N ∧ gLM h' (srt (gnL n N s) S)) := by
  have hn := ok.2.1
  have h4 := four_n hn
  have hlen := gL_len (b := 0) (s := s) ok
  rw [gL_0 ok] at hlen
  have nd : (gnL n N s).Nodup := selD_nd _
  have hL : ∀ x, x ∈ gnL n N s → x < 4 ^ n := fun x hx => ((selD_mem _).mp hx).1
  generalize hLL : gnL n N s = L at *
  have fin : ∀ h1, mod (fun k => k ≠ 71 ∧ k ≠ 72 ∧ k ≠ 73 ∧ k ≠ 75) (fun j => j ≠ 5 ∧ j ≠ 7 ∧ j ≠ 13) h h1 → tM h1 n N → h1.1 67 13 = nI L.length → ∀ f : Nat → Int32, hold f (srt L S) → (mod (fun k => k ≠ 71 ∧ k ≠ 72 ∧ k ≠ 73 ∧ k ≠ 75) (fun j => j ≠ 5 ∧ j ≠ 7 ∧ j ≠ 13) h (m_putA h1 75 f) ∧ tM (m_putA h1 75 f) n N ∧ gLM (m_putA h1 75 f) (srt L S)) := by
    intro h1 m1 t1 l1 f hf
    obtain ⟨w1, w2, w3, w4⟩ := t1
    refine ⟨m1.tr ⟨fun k _ hk => ⟨ma_k hk.2.2.2, rfl⟩, fun j _ => by rw [ma_k (by decide)]⟩, ⟨by rw [ma_k (by decide)]; exact w1, ⟨by rw [ma_k (by decide)]; exact w2.1, by rw [ma_k (by decide)]; exact w2.2⟩, fun m hm => by rw [ma_k (by decide)]; exact w3 m hm, fun m hm => by rw [ma_k (by decide)]; exact w4 m hm⟩, ?_, by rw [ma_eq]; exact hf⟩
    rw [ma_k (by decide), srt_len]; exact l1
  have outer : ∀ h1, mod (fun k => k ≠ 71 ∧ k ≠ 72 ∧ k ≠ 73 ∧ k ≠ 75) (fun j => j ≠ 5 ∧ j ≠ 7 ∧ j ≠ 13) h h1 → tM h1 n N → h1.1 67 13 = nI L.length → ∀ (q i : Nat) (f : Nat → Int32) (A : List Nat) (x3 x4 : Option Value), i + q = L.length → A.length = i → hold f A → (∀ j, i ≤ j → j < L.length → f j = nI (L.getD j 0)) → A.Pairwise (bef S) → (∀ x, x ∈ A ↔ x ∈ L.take i) → Ev G (d + 4) M_X12_sortGenerators 8 [some (.ref 67), some (.int (nI s)), some (.int (nI i)), x3, x4] [] (m_putA h1 75 f) (fun rv h' => rv = none ∧ mod (fun k => k ≠ 71 ∧ k ≠ 72 ∧ k ≠ 73 ∧ k ≠ 75) (fun j => j ≠ 5 ∧ j ≠ 7 ∧ j ≠ 13) h h' ∧ tM h' n N ∧ gLM h' (srt L S)) := by
    intro h1 m1 t1 l1 q
    induction q with
    | zero =>
      intro i f A x3 x4 hi lA hA hR pA mA
      rw [List.take_of_length_le (by omega)] at mA
      have eA := srt_uniq o hn nd hL pA mA
      rw [eA] at hA
      refine ev_iload_n dX12_sortGenerators_8 rfl ?_
      refine ev_aload_n dX12_sortGenerators_9 rfl ?_
      refine ev_getIv ((show (m_putA h1 75 f).1 67 13 = nI L.length by rw [ma_k (by decide)]; exact l1)) fl_X12_177 rfl rfl dX12_sortGenerators_10 ?_
      refine ev_icmp_geN 84 dX12_sortGenerators_13 (by decide) (by omega) (by omega) (fun c13 => ?_) (fun c13 => ?_)
      · refine ev_ret dX12_sortGenerators_84 rfl ?_
        exact ⟨rfl, fin h1 m1 t1 l1 f hA⟩
      · omega
    | succ q ih =>
      intro i f A x3 x4 hi lA hA hR pA mA
      have hmL : L.getD i 0 ∈ L := getD_mem (by omega)
      have hm := hL _ hmL
      have hAL : ∀ x, x ∈ A → x < 4 ^ n := fun x hx => hL x (List.mem_of_mem_take ((mA x).mp hx))
      have hne : ∀ x, x ∈ A → x ≠ L.getD i 0 := by
        intro x hx e
        have hx2 := (mA x).mp hx
        obtain ⟨j, hj, ej⟩ := getD_lt hx2
        rw [List.length_take] at hj
        rw [List.getD_eq_getElem?_getD, List.getElem?_take, if_pos (by omega), ← List.getD_eq_getElem?_getD] at ej
        have := pw_getD nd (show j < i by omega) (show i < L.length by omega)
        exact this (ej.trans e)
      generalize hmm : L.getD i 0 = m at *
      have inner : ∀ (k : Nat) (f : Nat → Int32), k ≤ i → (∀ j, j < k → f j = nI (A.getD j 0)) → (∀ j, k ≤ j → j < i → f (j + 1) = nI (A.getD j 0)) → (∀ j, i < j → j < L.length → f j = nI (L.getD j 0)) → (∀ j, k ≤ j → j < i → bef S m (A.getD j 0)) → Ev G (d + 4) M_X12_sortGenerators 26 [some (.ref 67), some (.int (nI s)), some (.int (nI i)), some (.int (nI m)), some (.int (nI k))] [] (m_putA h1 75 f) (fun rv h' => rv = none ∧ mod (fun k => k ≠ 71 ∧ k ≠ 72 ∧ k ≠ 73 ∧ k ≠ 75) (fun j => j ≠ 5 ∧ j ≠ 7 ∧ j ≠ 13) h h' ∧ tM h' n N ∧ gLM h' (srt L S)) := by
        have out : ∀ (k : Nat) (f : Nat → Int32), k ≤ i → (∀ j, j < k → f j = nI (A.getD j 0)) → (∀ j, k ≤ j → j < i → f (j + 1) = nI (A.getD j 0)) → (∀ j, i < j → j < L.length → f j = nI (L.getD j 0)) → (∀ j, k ≤ j → j < i → bef S m (A.getD j 0)) → (k = 0 ∨ ¬ bef S m (A.getD (k - 1) 0)) → Ev G (d + 4) M_X12_sortGenerators 70 [some (.ref 67), some (.int (nI s)), some (.int (nI i)), some (.int (nI m)), some (.int (nI k))] [] (m_putA h1 75 f) (fun rv h' => rv = none ∧ mod (fun k => k ≠ 71 ∧ k ≠ 72 ∧ k ≠ 73 ∧ k ≠ 75) (fun j => j ≠ 5 ∧ j ≠ 7 ∧ j ≠ 13) h h' ∧ tM h' n N ∧ gLM h' (srt L S)) := by
          intro k f hk f1 f2 f3 up dn
          refine ev_aload_n dX12_sortGenerators_70 rfl ?_
          refine ev_getR fl_X12_41 rfl rfl dX12_sortGenerators_71 ?_
          refine ev_iload dX12_sortGenerators_74 rfl ?_
          refine ev_iload_n dX12_sortGenerators_76 rfl ?_
          refine ev_iastN rfl dX12_sortGenerators_77 (by omega) (by omega) ?_
          rw [ma_set]
          refine ev_inc2N dX12_sortGenerators_78 (by decide) rfl ?_
          refine ev_goto 8 dX12_sortGenerators_81 (by decide) ?_
          refine ih (i + 1) _ (A.take k ++ m :: A.drop k) _ _ (by omega) (by rw [List.length_append, List.length_take, List.length_cons, List.length_drop]; omega) ?_ ?_ (ins_pw o hn pA (by omega) hAL hm hne (fun j h1 h2 => up j h1 (by omega)) dn) ?_
          · intro j hj
            rw [List.length_append, List.length_take, List.length_cons, List.length_drop] at hj
            rw [ins_getD (by omega)]
            by_cases c1 : j = k
            · subst c1; rw [pk_us, if_neg (by omega), if_pos rfl]
            · rw [pk_un c1]
              by_cases c2 : j < k
              · rw [if_pos c2]; exact f1 j c2
              · rw [if_neg c2, if_neg c1]
                have := f2 (j - 1) (by omega) (by omega)
                rwa [show j - 1 + 1 = j by omega] at this
          · intro j h1 h2
            rw [pk_un (by omega)]; exact f3 j (by omega) h2
          · intro x
            rw [take_snoc (by omega), hmm, List.mem_append, List.mem_append, List.mem_cons, List.mem_singleton, ← mA x]
            constructor
            · rintro (z | z | z)
              · exact Or.inl (List.mem_of_mem_take z)
              · exact Or.inr z
              · exact Or.inl (List.mem_of_mem_drop z)
            · rintro (z | z)
              · rw [← List.take_append_drop k A, List.mem_append] at z
                rcases z with z | z
                · exact Or.inl z
                · exact Or.inr (Or.inr z)
              · exact Or.inr (Or.inl z)
        intro k
        induction k with
        | zero =>
          intro f hk f1 f2 f3 up
          have q := out 0 f hk f1 f2 f3 up (Or.inl rfl)
          refine ev_iload dX12_sortGenerators_26 rfl ?_
          refine ev_if_leN 70 dX12_sortGenerators_28 (by decide) (by omega) (fun c28 => ?_) (fun c28 => ?_)
          · exact q
          · exact absurd rfl c28
        | succ k ihk =>
          intro f hk f1 f2 f3 up
          have ha := hAL _ (getD_mem (L := A) (i := k) (by omega))
          have y := b01_lt (bef S m (A.getD k 0))
          have gs : gM (m_putA h1 75 f) n N := ⟨by rw [ma_k (by decide), m1.2 0 (by decide)]; exact g.1, fun v hv => by rw [ma_k (by decide), (m1.1 68 (by decide) (by decide)).1]; exact g.2 v hv⟩
          have hSs : hold ((m_putA h1 75 f).1 76) S := by rw [ma_k (by decide), (m1.1 76 (by decide) (by decide)).1]; exact hS
          have ek : k + 1 - 1 = k := by omega
          refine ev_iload dX12_sortGenerators_26 rfl ?_
          refine ev_if_leN 70 dX12_sortGenerators_28 (by decide) (by omega) (fun c28 => ?_) (fun c28 => ?_)
          · omega
          · refine ev_aload_n dX12_sortGenerators_31 rfl ?_
            refine ev_iload_n dX12_sortGenerators_32 rfl ?_
            refine ev_aload_n dX12_sortGenerators_33 rfl ?_
            refine ev_getR fl_X12_41 rfl rfl dX12_sortGenerators_34 ?_
            refine ev_iload dX12_sortGenerators_37 rfl ?_
            refine ev_iconst (nI 1) dX12_sortGenerators_39 rfl ?_
            refine ev_isubN dX12_sortGenerators_40 (by omega) ?_
            rw [ek]
            refine ev_ialdv ((show (m_putA h1 75 f).1 75 k = nI (A.getD k 0) by rw [ma_eq]; exact f1 k (by omega))) rfl dX12_sortGenerators_41 (by omega) (by omega) ?_
            refine ev_callV (cl_isBefore gs hn hSs o (by omega) (by omega)) ok_X12_isBefore ml_X12_205 rfl rfl rfl rfl (Nat.le_of_ble_eq_true rfl) dX12_sortGenerators_42 (kI ?_)
            refine ev_if_eqN 70 dX12_sortGenerators_45 (by decide) (by omega) (fun c45 => ?_) (fun c45 => ?_)
            · exact out (k + 1) f hk f1 f2 f3 up (Or.inr (by rw [ek]; exact b01_0.mp c45))
            · refine ev_aload_n dX12_sortGenerators_48 rfl ?_
              refine ev_getR fl_X12_41 rfl rfl dX12_sortGenerators_49 ?_
              refine ev_iload dX12_sortGenerators_52 rfl ?_
              refine ev_aload_n dX12_sortGenerators_54 rfl ?_
              refine ev_getR fl_X12_41 rfl rfl dX12_sortGenerators_55 ?_
              refine ev_iload dX12_sortGenerators_58 rfl ?_
              refine ev_iconst (nI 1) dX12_sortGenerators_60 rfl ?_
              refine ev_isubN dX12_sortGenerators_61 (by omega) ?_
              rw [ek]
              refine ev_ialdv ((show (m_putA h1 75 f).1 75 k = nI (A.getD k 0) by rw [ma_eq]; exact f1 k (by omega))) rfl dX12_sortGenerators_62 (by omega) (by omega) ?_
              refine ev_iastN rfl dX12_sortGenerators_63 (by omega) (by omega) ?_
              rw [ma_set]
              refine ev_inc4 dX12_sortGenerators_64 rfl (by decide) rfl ?_
              refine ev_goto 26 dX12_sortGenerators_67 (by decide) ?_
              rw [show nI (k + 1) + Int32.ofInt (-1) = nI k from dnI_s k]
              refine ihk _ (by omega) (fun j hj => ?_) (fun j h1 h2 => ?_) (fun j h1 h2 => ?_) (fun j h1 h2 => ?_)
              · rw [pk_un (by omega)]; exact f1 j (by omega)
              · by_cases c : j = k
                · subst c; exact pk_us
                · rw [pk_un (by omega)]; exact f2 j (by omega) h2
              · rw [pk_un (by omega)]; exact f3 j h1 h2
              · by_cases c : j = k
                · subst c; exact b01_1.mp (by omega)
                · exact up j (by omega) h2
      refine ev_iload_n dX12_sortGenerators_8 rfl ?_
      refine ev_aload_n dX12_sortGenerators_9 rfl ?_
      refine ev_getIv ((show (m_putA h1 75 f).1 67 13 = nI L.length by rw [ma_k (by decide)]; exact l1)) fl_X12_177 rfl rfl dX12_sortGenerators_10 ?_
      refine ev_icmp_geN 84 dX12_sortGenerators_13 (by decide) (by omega) (by omega) (fun c13 => ?_) (fun c13 => ?_)
      · omega
      · refine ev_aload_n dX12_sortGenerators_16 rfl ?_
        refine ev_getR fl_X12_41 rfl rfl dX12_sortGenerators_17 ?_
        refine ev_iload_n dX12_sortGenerators_20 rfl ?_
        refine ev_ialdv ((show (m_putA h1 75 f).1 75 i = nI m by rw [ma_eq, ← hmm]; exact hR i (Nat.le_refl _) (by omega))) rfl dX12_sortGenerators_21 (by omega) (by omega) ?_
        refine ev_ist3 dX12_sortGenerators_22 (by decide) rfl ?_
        refine ev_iload_n dX12_sortGenerators_23 rfl ?_
        refine ev_ist4 dX12_sortGenerators_24 (by decide) rfl ?_
        exact inner i f (Nat.le_refl _) (fun j hj => hA j (by omega)) (fun j h1 h2 => absurd h2 (by omega)) (fun j h1 h2 => hR j (by omega) h2) (fun j h1 h2 => absurd h2 (by omega))
  have zed : ∀ h1, mod (fun k => k ≠ 71 ∧ k ≠ 72 ∧ k ≠ 73 ∧ k ≠ 75) (fun j => j ≠ 5 ∧ j ≠ 7 ∧ j ≠ 13) h h1 → tM h1 n N → h1.1 67 13 = nI L.length → L.length = 0 → Ev G (d + 4) M_X12_sortGenerators 8 [some (.ref 67), some (.int (nI s)), some (.int (nI 1)), none, none] [] h1 (fun rv h' => rv = none ∧ mod (fun k => k ≠ 71 ∧ k ≠ 72 ∧ k ≠ 73 ∧ k ≠ 75) (fun j => j ≠ 5 ∧ j ≠ 7 ∧ j ≠ 13) h h' ∧ tM h' n N ∧ gLM h' (srt L S)) := by
    intro h1 m1 t1 l1 hz
    have eS : (srt L S).length = 0 := by rw [srt_len]; exact hz
    refine ev_iload_n dX12_sortGenerators_8 rfl ?_
    refine ev_aload_n dX12_sortGenerators_9 rfl ?_
    refine ev_getIv (l1) fl_X12_177 rfl rfl dX12_sortGenerators_10 ?_
    refine ev_icmp_geN 84 dX12_sortGenerators_13 (by decide) (by omega) (by omega) (fun c13 => ?_) (fun c13 => ?_)
    · refine ev_ret dX12_sortGenerators_84 rfl ?_
      exact ⟨rfl, m1, t1, by rw [srt_len]; exact l1, fun i hi => absurd hi (by omega)⟩
    · omega
  have e0 : gL n N 0 s = L := by rw [gL_0 ok, hLL]
  refine ev_start 3 (lv := [some (.ref 67), some (.int (nI s)), none, none, none]) rfl (by decide) (Nat.le_of_ble_eq_true rfl) ?_
  refine ev_aload_n dX12_sortGenerators_0 rfl ?_
  refine ev_iload_n dX12_sortGenerators_1 rfl ?_
  refine ev_iconst (nI 0) dX12_sortGenerators_2 rfl ?_
  refine ev_callV (cl_findGenerators g ok c hs (by decide)) ok_X12_findGenerators ml_X12_188 rfl rfl rfl rfl (Nat.le_of_ble_eq_true rfl) dX12_sortGenerators_3 ?_
  rintro rv h1 ⟨rfl, m1, t1, q1⟩
  rw [e0] at q1
  refine ev_iconst (nI 1) dX12_sortGenerators_6 rfl ?_
  refine ev_ist2 dX12_sortGenerators_7 (by decide) rfl ?_
  by_cases hz : L.length = 0
  · exact zed h1 m1 t1 q1.1 hz
  · have q := outer h1 m1 t1 q1.1 (L.length - 1) 1 (h1.1 75) [L.getD 0 0] none none (by omega) rfl (fun j hj => by
        have : j = 0 := by simp at hj; omega
        subst this
        exact q1.2 0 (by omega)) (fun j _ h2 => q1.2 j h2) (List.pairwise_singleton _ _) (fun x => by
        rw [take_snoc (show 0 < L.length by omega)]; simp)
    rw [ma_self] at q
    exact q
end LQ4
