section LQ3
variable {G : MG} {d : Nat} {h : MH}
/-- a comes before b, by the exponents in the order S -/
def bef : List Nat → Nat → Nat → Prop
  | [], _, _ => False
  | v :: S, a, b => ex b v < ex a v ∨ (ex a v = ex b v ∧ bef S a b)
theorem bef_as : ∀ S a b, bef S a b → bef S b a → False
  | [], _, _, h, _ => h
  | v :: S, a, b, h1, h2 => by
    rcases h1 with q | ⟨q, q'⟩
    · rcases h2 with r | ⟨r, _⟩
      · omega
      · omega
    · rcases h2 with r | ⟨_, r'⟩
      · omega
      · exact bef_as S a b q' r'
theorem bef_tr : ∀ S a b c, bef S a b → bef S b c → bef S a c
  | [], _, _, _, h, _ => h.elim
  | v :: S, a, b, c, h1, h2 => by
    rcases h1 with q | ⟨q, q'⟩
    · rcases h2 with r | ⟨r, _⟩
      · exact Or.inl (by omega)
      · exact Or.inl (by omega)
    · rcases h2 with r | ⟨r, r'⟩
      · exact Or.inl (by omega)
      · exact Or.inr ⟨by omega, bef_tr S a b c q' r'⟩
theorem bef_tot : ∀ S a b, (∃ v, v ∈ S ∧ ex a v ≠ ex b v) → bef S a b ∨ bef S b a
  | [], _, _, h => by obtain ⟨v, hv, _⟩ := h; cases hv
  | v :: S, a, b, h => by
    by_cases c : ex a v = ex b v
    · obtain ⟨w, hw, hn⟩ := h
      rcases List.mem_cons.mp hw with rfl | z
      · exact absurd c hn
      · rcases bef_tot S a b ⟨w, z, hn⟩ with q | q
        · exact Or.inl (Or.inr ⟨c, q⟩)
        · exact Or.inr (Or.inr ⟨c.symm, q⟩)
    · by_cases c2 : ex a v < ex b v
      · exact Or.inr (Or.inl c2)
      · exact Or.inl (Or.inl (by omega))
/-- an order of the vertices -/
def isO (n : Nat) (S : List Nat) : Prop := S.length = n ∧ S.Nodup ∧ ∀ v, v ∈ S → v < n
theorem isO_all {n : Nat} {S : List Nat} (o : isO n S) : ∀ v, v < n → v ∈ S := by
  intro v hv
  apply Classical.byContradiction
  intro hn
  have l : (v :: S).length ≤ n := by
    have := pigeon (B := fun _ => true) n (v :: S) (List.nodup_cons.mpr ⟨hn, o.2.1⟩) (fun x hx => by
      rcases List.mem_cons.mp hx with rfl | z
      · exact ⟨hv, rfl⟩
      · exact ⟨o.2.2 x z, rfl⟩)
    refine Nat.le_trans this ?_
    have : ∀ k, cntB (fun _ => true) k ≤ k := by
      intro k
      induction k with
      | zero => exact Nat.le_refl _
      | succ k ih => show cntB (fun _ => true) k + 1 ≤ k + 1; omega
    exact this n
  rw [List.length_cons, o.1] at l
  omega
theorem rdO_isO {n : Nat} {x : Int32} {L : List Nat} (e : rdO n x = some L) : isO n L := by
  unfold rdO at e
  split at e
  · cases e
  · exact ⟨rd_len _ _ _ _ e, rd_nd _ _ _ _ e, fun v hv => (rd_mem _ _ _ _ e v hv).1⟩
theorem bef_ne {n a b : Nat} {S : List Nat} (o : isO n S) (hn : n ≤ 7) (ha : a < 4 ^ n) (hb : b < 4 ^ n) (hab : a ≠ b) : bef S a b ∨ bef S b a := by
  have h4 := four_n hn
  apply bef_tot
  apply Classical.byContradiction
  intro z
  apply hab
  refine ex_ext (by omega) (by omega) (fun w _ => ?_)
  by_cases c : w < n
  · exact Classical.byContradiction (fun y => z ⟨w, isO_all o w c, y⟩)
  · rw [ex_big ha (by omega), ex_big hb (by omega)]
theorem uniqS {R : Nat → Nat → Prop} (as : ∀ a b, R a b → R b a → False) : ∀ L K : List Nat, L.Pairwise R → K.Pairwise R → (∀ x, x ∈ L ↔ x ∈ K) → L = K
  | [], [], _, _, _ => rfl
  | [], b :: K, _, _, m => absurd ((m b).mpr List.mem_cons_self) List.not_mem_nil
  | a :: L, [], _, _, m => absurd ((m a).mp List.mem_cons_self) List.not_mem_nil
  | a :: L, b :: K, p, q, m => by
    rw [List.pairwise_cons] at p q
    have e : a = b := by
      apply Classical.byContradiction
      intro ne
      have h1 : a ∈ K := by
        rcases List.mem_cons.mp ((m a).mp List.mem_cons_self) with z | z
        · exact absurd z ne
        · exact z
      have h2 : b ∈ L := by
        rcases List.mem_cons.mp ((m b).mpr List.mem_cons_self) with z | z
        · exact absurd z.symm ne
        · exact z
      exact as a b (p.1 b h2) (q.1 a h1)
    subst e
    rw [uniqS as L K p.2 q.2 (fun x => ⟨fun hx => ?_, fun hx => ?_⟩)]
    · rcases List.mem_cons.mp ((m x).mp (List.mem_cons_of_mem _ hx)) with z | z
      · subst z; exact (as x x (p.1 x hx) (p.1 x hx)).elim
      · exact z
    · rcases List.mem_cons.mp ((m x).mpr (List.mem_cons_of_mem _ hx)) with z | z
      · subst z; exact (as x x (q.1 x hx) (q.1 x hx)).elim
      · exact z
def wk (S : List Nat) (a b : Nat) : Prop := a ≠ b ∧ ¬ bef S b a
theorem flt_pw {v : Nat} {S L : List Nat} (p : L.Pairwise (wk S)) : ∀ e, (flt v L e).Pairwise (wk (v :: S))
  | 0 => List.Pairwise.nil
  | e + 1 => by
    show (L.filter _ ++ flt v L e).Pairwise _
    rw [List.pairwise_append]
    refine ⟨?_, flt_pw p e, ?_⟩
    · refine List.Pairwise.imp_of_mem ?_ (p.filter _)
      intro a b ha hb q
      rw [List.mem_filter, beq_iff_eq] at ha hb
      refine ⟨q.1, ?_⟩
      rintro (z | ⟨_, z⟩)
      · omega
      · exact q.2 z
    · intro a ha b hb
      rw [List.mem_filter, beq_iff_eq] at ha
      rw [flt_mem] at hb
      refine ⟨fun z => by subst z; omega, ?_⟩
      rintro (z | ⟨z, _⟩)
      · omega
      · omega
theorem srt_pw {L : List Nat} (nd : L.Nodup) : ∀ S, (srt L S).Pairwise (wk S)
  | [] => List.Pairwise.imp (fun q => ⟨q, fun z => z⟩) nd
  | v :: S => flt_pw (srt_pw nd S) 4
theorem srt_bef {n : Nat} {L S : List Nat} (o : isO n S) (hn : n ≤ 7) (nd : L.Nodup) (hL : ∀ x, x ∈ L → x < 4 ^ n) : (srt L S).Pairwise (bef S) := by
  refine List.Pairwise.imp_of_mem ?_ (srt_pw nd S)
  intro a b ha hb q
  rcases bef_ne o hn (hL a ((srt_mem S).mp ha)) (hL b ((srt_mem S).mp hb)) q.1 with z | z
  · exact z
  · exact absurd z q.2
theorem srt_uniq {n : Nat} {L S K : List Nat} (o : isO n S) (hn : n ≤ 7) (nd : L.Nodup) (hL : ∀ x, x ∈ L → x < 4 ^ n) (p : K.Pairwise (bef S)) (m : ∀ x, x ∈ K ↔ x ∈ L) : K = srt L S :=
  uniqS (bef_as S) K (srt L S) p (srt_bef o hn nd hL) (fun x => by rw [m x, srt_mem])
theorem dif_dec : ∀ a, a < 4 → ∀ b, b < 4 → ((nI a - nI b = 0 ↔ a = b) ∧ (nI a - nI b ≤ 0 ↔ a ≤ b)) := by decide +kernel
theorem cl_isBefore {n N a b : Nat} {S : List Nat} (g : gM h n N) (hn : n ≤ 7) (hS : hold (h.1 76) S) (o : isO n S) (ha : a < 16384) (hb : b < 16384) : Cl G (d + 1) M_X12_isBefore [.ref 67, .int (nI a), .int (nI b)] h (qI (nI (b01 (bef S a b))) h) := by
  have loop : ∀ (j k : Nat), k + j = n → (bef S a b ↔ bef (S.drop k) a b) → ∀ x4 : Option Value, Ev G (d + 1) M_X12_isBefore 2 [some (.ref 67), some (.int (nI a)), some (.int (nI b)), some (.int (nI k)), x4] [] h (qI (nI (b01 (bef S a b))) h) := by
    intro j
    induction j with
    | zero =>
      intro k hk hp x4
      rw [List.drop_of_length_le (by rw [o.1]; omega)] at hp
      refine ev_iload_n dX12_isBefore_2 rfl ?_
      refine ev_aload_n dX12_isBefore_3 rfl ?_
      refine ev_getIv (g.1) fl_X12_9 rfl rfl dX12_isBefore_4 ?_
      refine ev_icmp_geN 55 dX12_isBefore_7 (by decide) (by omega) (by omega) (fun c7 => ?_) (fun c7 => ?_)
      · refine ev_iconst (nI 0) dX12_isBefore_55 rfl ?_
        refine ev_zret dX12_isBefore_56 rfl rfl ?_
        exact ⟨by rw [b01_f (fun z => hp.mp z)], rfl⟩
      · omega
    | succ j ih =>
      intro k hk hp x4
      have hkS : k < S.length := by rw [o.1]; omega
      have hv := o.2.2 _ (getD_mem hkS)
      have ed : S.drop k = S.getD k 0 :: S.drop (k + 1) := by
        rw [List.drop_eq_getElem_cons hkS, List.getD_eq_getElem?_getD, List.getElem?_eq_getElem hkS]; rfl
      rw [ed] at hp
      have x1 := ex_lt a (S.getD k 0)
      have x2 := ex_lt b (S.getD k 0)
      have dd := dif_dec _ x1 _ x2
      refine ev_iload_n dX12_isBefore_2 rfl ?_
      refine ev_aload_n dX12_isBefore_3 rfl ?_
      refine ev_getIv (g.1) fl_X12_9 rfl rfl dX12_isBefore_4 ?_
      refine ev_icmp_geN 55 dX12_isBefore_7 (by decide) (by omega) (by omega) (fun c7 => ?_) (fun c7 => ?_)
      · omega
      · refine ev_iload_n dX12_isBefore_10 rfl ?_
        refine ev_aload_n dX12_isBefore_11 rfl ?_
        refine ev_getR fl_X12_44 rfl rfl dX12_isBefore_12 ?_
        refine ev_iload_n dX12_isBefore_15 rfl ?_
        refine ev_ialdv (hS k hkS) rfl dX12_isBefore_16 (by omega) (by omega) ?_
        refine ev_callS (cl_exponentOfM (by omega) (by omega)) ok_X12_exponentOf ml_X12_128 rfl rfl (Nat.le_of_ble_eq_true rfl) dX12_isBefore_17 (kI ?_)
        refine ev_iload_n dX12_isBefore_20 rfl ?_
        refine ev_aload_n dX12_isBefore_21 rfl ?_
        refine ev_getR fl_X12_44 rfl rfl dX12_isBefore_22 ?_
        refine ev_iload_n dX12_isBefore_25 rfl ?_
        refine ev_ialdv (hS k hkS) rfl dX12_isBefore_26 (by omega) (by omega) ?_
        refine ev_callS (cl_exponentOfM (by omega) (by omega)) ok_X12_exponentOf ml_X12_128 rfl rfl (Nat.le_of_ble_eq_true rfl) dX12_isBefore_27 (kI ?_)
        refine ev_isub dX12_isBefore_30 ?_
        refine ev_ist4 dX12_isBefore_31 (by decide) rfl ?_
        refine ev_iload dX12_isBefore_33 rfl ?_
        refine ev_if_eq 49 dX12_isBefore_35 (by decide) (fun c35 => ?_) (fun c35 => ?_)
        · refine ev_inc3N dX12_isBefore_49 (by decide) rfl ?_
          refine ev_goto 2 dX12_isBefore_52 (by decide) ?_
          refine ih (k + 1) (by omega) (hp.trans ⟨fun z => ?_, fun z => Or.inr ⟨dd.1.mp c35, z⟩⟩) _
          have := dd.1.mp c35
          rcases z with z | z
          · omega
          · exact z.2
        · refine ev_iload dX12_isBefore_38 rfl ?_
          refine ev_if_le 47 dX12_isBefore_40 (by decide) (fun c40 => ?_) (fun c40 => ?_)
          · refine ev_iconst (nI 0) dX12_isBefore_47 rfl ?_
            refine ev_zret dX12_isBefore_48 rfl rfl ?_
            exact ⟨by
            rw [b01_f (fun z => by
              have q1 := dd.2.mp c40
              have q2 : ¬ ex a (S.getD k 0) = ex b (S.getD k 0) := fun y => c35 (dd.1.mpr y)
              rcases hp.mp z with w | w
              · omega
              · exact q2 w.1)], rfl⟩
          · refine ev_iconst (nI 1) dX12_isBefore_43 rfl ?_
            refine ev_goto 48 dX12_isBefore_44 (by decide) ?_
            refine ev_zret dX12_isBefore_48 rfl rfl ?_
            exact ⟨by
            rw [b01_t (hp.mpr (Or.inl (by
              have q1 : ¬ ex a (S.getD k 0) ≤ ex b (S.getD k 0) := fun y => c40 (dd.2.mpr y)
              omega)))], rfl⟩
  refine ev_start 2 (lv := [some (.ref 67), some (.int (nI a)), some (.int (nI b)), none, none]) rfl (by decide) (Nat.le_of_ble_eq_true rfl) ?_
  refine ev_iconst (nI 0) dX12_isBefore_0 rfl ?_
  refine ev_ist3 dX12_isBefore_1 (by decide) rfl ?_
  exact loop n 0 (by omega) Iff.rfl none
end LQ3
