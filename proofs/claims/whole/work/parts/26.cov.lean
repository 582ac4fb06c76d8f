section COV
variable {G : MG} {d : Nat} {h : MH}
theorem ra_cnt {h : MH} {p s : Nat} {x : Int32} : (rowAdd h p s x).1 p 1 = nI (s + 1) := mp_eq _ _ _ _
theorem ra_arr {h : MH} {p s : Nat} {x : Int32} : (rowAdd h p s x).1 (p + 1) = upd (h.1 (p + 1)) s x := by
  unfold rowAdd; rw [mp_k (by omega)]; exact ma_eq _ _ _
theorem ra_k {h : MH} {p s k : Nat} {x : Int32} (h1 : k ≠ p) (h2 : k ≠ p + 1) : (rowAdd h p s x).1 k = h.1 k := by
  unfold rowAdd; rw [mp_k h1, mp_k h2]
theorem ra_j {h : MH} {p s j : Nat} {x : Int32} (hj : j ≠ 1) : (rowAdd h p s x).1 p j = h.1 p j := by
  unfold rowAdd; rw [mp_j hj, mp_k (by omega)]
theorem ra_2 {h : MH} {p s : Nat} {x : Int32} : (rowAdd h p s x).2 = h.2 := rfl
/-! the masks of sets -/
def mkF (s : Nat) : Nat → Nat
  | 0 => 0
  | v + 1 => mkF s v ||| (s / 2 ^ v &&& 1) * 3 * 4 ^ v
def mk (s : Nat) : Nat := mkF s 7
theorem mk_ok : ∀ s, s < 128 → mk s < 16384 ∧ ∀ v, v < 7 → ex (mk s) v = if s.testBit v = true then 3 else 0 := by decide +kernel
theorem mkF_lt : ∀ s, s < 128 → ∀ v, v < 8 → mkF s v < 16384 := by decide +kernel
theorem cl_maskOf {s : Nat} (hs : s < 128) : Cl G (d + 1) M_X6_maskOf [.int (nI s)] h (qI (nI (mk s)) h) := by
  have loop : ∀ (k v : Nat), v + k = 7 → Ev G (d + 1) M_X6_maskOf 4 [some (.int (nI s)), some (.int (nI (mkF s v))), some (.int (nI v))] [] h (qI (nI (mk s)) h) := by
    intro k
    induction k with
    | zero =>
      intro v hv
      obtain rfl : v = 7 := by omega
      refine ev_iload_n dX6_maskOf_4 rfl ?_
      refine ev_bipush (nI 7) dX6_maskOf_5 rfl ?_
      refine ev_icmp_geN 31 dX6_maskOf_7 (by decide) (by omega) (by omega) (fun c7 => ?_) (fun c7 => ?_)
      · refine ev_iload_n dX6_maskOf_31 rfl ?_
        refine ev_iret dX6_maskOf_32 rfl ?_
        exact ⟨rfl, rfl⟩
      · omega
    | succ k ih =>
      intro v hv
      refine ev_iload_n dX6_maskOf_4 rfl ?_
      refine ev_bipush (nI 7) dX6_maskOf_5 rfl ?_
      refine ev_icmp_geN 31 dX6_maskOf_7 (by decide) (by omega) (by omega) (fun c7 => ?_) (fun c7 => ?_)
      · omega
      · refine ev_iload_n dX6_maskOf_10 rfl ?_
        refine ev_iload_n dX6_maskOf_11 rfl ?_
        refine ev_iload_n dX6_maskOf_12 rfl ?_
        refine ev_ishrN dX6_maskOf_13 (by omega) (by omega) ?_
        refine ev_iconst (nI 1) dX6_maskOf_14 rfl ?_
        refine ev_iandN dX6_maskOf_15 ?_
        refine ev_iconst (nI 3) dX6_maskOf_16 rfl ?_
        refine ev_imulN dX6_maskOf_17 ?_
        refine ev_iload_n dX6_maskOf_18 rfl ?_
        refine ev_callS (cl_unit (by omega)) ok_X6_unit ml_X6_24 rfl rfl (Nat.le_of_ble_eq_true rfl) dX6_maskOf_19 (kI ?_)
        refine ev_imulN dX6_maskOf_22 ?_
        refine ev_iorN dX6_maskOf_23 ?_
        refine ev_ist1 dX6_maskOf_24 (by decide) rfl ?_
        refine ev_inc2N dX6_maskOf_25 (by decide) rfl ?_
        refine ev_goto 4 dX6_maskOf_28 (by decide) ?_
        exact ih (v + 1) (by omega)
  refine ev_start 2 (lv := [some (.int (nI s)), none, none]) rfl (by decide) (Nat.le_of_ble_eq_true rfl) ?_
  refine ev_iconst (nI 0) dX6_maskOf_0 rfl ?_
  refine ev_ist1 dX6_maskOf_1 (by decide) rfl ?_
  refine ev_iconst (nI 0) dX6_maskOf_2 rfl ?_
  refine ev_ist2 dX6_maskOf_3 (by decide) rfl ?_
  exact loop 7 0 (by omega)
theorem ex_and (a b v : Nat) : ex (a &&& b) v = ex a v &&& ex b v := by
  unfold ex
  rw [← pow4, show (4 : Nat) = 2 ^ 2 from rfl, ← Nat.and_mod_two_pow, ← Nat.and_div_two_pow]
theorem ex_mk {m s v : Nat} (hs : s < 128) (hv : v < 7) : ex (m &&& mk s) v = if s.testBit v = true then ex m v else 0 := by
  rw [ex_and, (mk_ok s hs).2 v hv]
  split
  · rw [nat_and3]; exact Nat.mod_eq_of_lt (ex_lt m v)
  · exact Nat.and_zero _
def wsm (n c m : Nat) : Nat := sumTo n (fun v => (c / 2 ^ v &&& 1) * ex m v)
theorem deg_sum (m : Nat) : deg m = sumTo 7 (ex m) := by
  unfold deg; simp only [sumTo]; omega
theorem deg_mk {n m c : Nat} (hn : n ≤ 7) (hm : m < 4 ^ n) (hc : c < 128) : deg (m &&& mk c) = wsm n c m := by
  rw [deg_sum]
  unfold wsm
  rw [← sumTo_z (k := 7) hn (fun i h1 h2 => by rw [ex_big hm h1, Nat.mul_zero])]
  refine sumTo_c (fun i hi => ?_)
  rw [ex_mk hc hi]
  split
  · next c1 => rw [(tb_iff _ _).mpr c1, Nat.one_mul]
  · next c1 => rw [(tb_0 _ _).mpr (by simpa using c1), Nat.zero_mul]
/-! the minimal covers -/
noncomputable def cvL (n N : Nat) : List Nat := selA (MinC n N) (2 ^ n) 0
theorem cvL_mem {n N c : Nat} : c ∈ cvL n N ↔ c < 2 ^ n ∧ MinC n N c := by
  unfold cvL
  rw [selA_mem]
  constructor
  · rintro ⟨-, h1, h2⟩; exact ⟨by omega, h2⟩
  · rintro ⟨h1, h2⟩; exact ⟨by omega, by omega, h2⟩
theorem MinC_anti {n N x y : Nat} (ok : gOK n N) (hx : x < 2 ^ n) (hy : y < 2 ^ n) (mx : MinC n N x) (my : MinC n N y) (hxy : x ||| y = y) : x = y := by
  have hn := ok.2.1
  have sub : ∀ i, x.testBit i = true → y.testBit i = true := by
    intro i hi
    rw [← hxy, Nat.testBit_or, hi]; rfl
  refine set_ext hx hy (fun v hv => ?_)
  cases hb : y.testBit v with
  | false =>
    cases hb2 : x.testBit v with
    | false => rfl
    | true => rw [sub v hb2] at hb; cases hb
  | true =>
    have h1 := (my v hv).mp hb
    rw [set_ne0 (k := 7) (andn_lt (nb_lt N v))] at h1
    obtain ⟨u, hu, hu2⟩ := h1
    rw [andn_bit, Bool.and_eq_true] at hu2
    refine (mx v hv).mpr (fun z => ?_)
    have := andn_z.mp z u hu hu2.1
    have := sub u this
    rw [this] at hu2; exact absurd hu2.2 (by decide)
theorem cvL_len {n N : Nat} (ok : gOK n N) : (cvL n N).length ≤ 35 :=
  anti35 (selA_nd _ _) (fun x hx => Nat.lt_of_lt_of_le (cvL_mem.mp hx).1 (two_n ok.2.1)) (fun x y hx hy e => MinC_anti ok (cvL_mem.mp hx).1 (cvL_mem.mp hy).1 (cvL_mem.mp hx).2 (cvL_mem.mp hy).2 e)
theorem cvL_lt {n N c : Nat} (ok : gOK n N) (h : c ∈ cvL n N) : c < 128 := Nat.lt_of_lt_of_le (cvL_mem.mp h).1 (two_n ok.2.1)
theorem cvL_ne {n N : Nat} (ok : gOK n N) : cvL n N ≠ [] := by
  have hn := ok.2.1
  have t3 := two_pos n
  have key : ∀ (k s : Nat), s < 2 ^ n → pop s = k → Cov n N s → ∃ t, t < 2 ^ n ∧ MinC n N t := by
    intro k
    induction k with
    | zero =>
      intro s hs hp hc
      refine ⟨s, hs, (MinC_iff ok).mpr ⟨hc, fun v hv hb => ?_⟩⟩
      have := pop_0 s (Nat.lt_of_lt_of_le hs (two_n hn)) hp
      subst this
      rw [Nat.zero_testBit] at hb; cases hb
    | succ k ih =>
      intro s hs hp hc
      by_cases q : ∀ v, v < n → s.testBit v = true → ¬ Cov n N (andn s (2 ^ v))
      · exact ⟨s, hs, (MinC_iff ok).mpr ⟨hc, q⟩⟩
      · have : ∃ v, v < n ∧ s.testBit v = true ∧ Cov n N (andn s (2 ^ v)) := by
          apply Classical.byContradiction
          intro z
          exact q (fun v h1 h2 h3 => z ⟨v, h1, h2, h3⟩)
        obtain ⟨v, h1, h2, h3⟩ := this
        have := pop_rm s (Nat.lt_of_lt_of_le hs (two_n hn)) v (by omega) h2
        exact ih (andn s (2 ^ v)) (andn_lt hs) (by omega) h3
  obtain ⟨t, h1, h2⟩ := key _ (2 ^ n - 1) (by omega) rfl (fun v hv hb => by rw [all_bit] at hb; simp at hb; omega)
  intro q
  have := cvL_mem.mpr ⟨h1, h2⟩
  rw [q] at this
  exact absurd this List.not_mem_nil
def kC (h : MH) (n N : Nat) : Prop := h.1 4 5 = nI 1 ∧ h.1 6 1 = nI (cvL n N).length ∧ hold (h.1 7) (cvL n N) ∧ h.1 8 1 = nI (cvL n N).length ∧ hold (h.1 9) ((cvL n N).map mk)
theorem cl_minimalCovers_k {n N : Nat} (hk : h.1 4 5 = nI 1) : Cl G d M_X2_minimalCovers [.ref 4] h (qR 6 h) := by
  refine ev_start 1 (lv := [some (.ref 4), none]) rfl (by decide) (Nat.le_of_ble_eq_true rfl) ?_
  refine ev_aload_n dX2_minimalCovers_0 rfl ?_
  refine ev_getIv (hk) fl_X2_51 rfl rfl dX2_minimalCovers_1 ?_
  refine ev_if_neN 79 dX2_minimalCovers_4 (by decide) (by omega) (fun c4 => ?_) (fun c4 => ?_)
  · refine ev_aload_n dX2_minimalCovers_79 rfl ?_
    refine ev_getR fl_X2_26 rfl rfl dX2_minimalCovers_80 ?_
    refine ev_aret dX2_minimalCovers_83 rfl ?_
    exact ⟨by with_reducible rfl, rfl⟩
  · exact absurd c4 (by decide)
theorem cl_minimalCovers_n {n N : Nat} (g : gC h n N) (ok : gOK n N) (hk : h.1 4 5 = nI 0) : Cl G (d + 2) M_X2_minimalCovers [.ref 4] h (fun rv h' => rv = some (.ref 6) ∧ same (fun k => k ≠ 4 ∧ k ≠ 6 ∧ k ≠ 7 ∧ k ≠ 8 ∧ k ≠ 9) h h' ∧ (∀ j, j ≠ 5 → h'.1 4 j = h.1 4 j) ∧ kC h' n N) := by
  have hn := ok.2.1
  have t2 := two_n hn
  have t3 := two_pos n
  have l35 := cvL_len ok
  have loop : ∀ (k s : Nat) (L : List Nat) (h1 : MH), s + k = 2 ^ n → same (fun k => k ≠ 6 ∧ k ≠ 7 ∧ k ≠ 8 ∧ k ≠ 9) h h1 → L ++ selA (MinC n N) k s = cvL n N → h1.1 6 1 = nI L.length → hold (h1.1 7) L → h1.1 8 1 = nI L.length → hold (h1.1 9) (L.map mk) → Ev G (d + 2) M_X2_minimalCovers 25 [some (.ref 4), some (.int (nI s))] [] h1 (fun rv h' => rv = some (.ref 6) ∧ same (fun k => k ≠ 4 ∧ k ≠ 6 ∧ k ≠ 7 ∧ k ≠ 8 ∧ k ≠ 9) h h' ∧ (∀ j, j ≠ 5 → h'.1 4 j = h.1 4 j) ∧ kC h' n N) := by
    intro k
    induction k with
    | zero =>
      intro s L h1 hs hm hL e1 e2 e3 e4
      have g1 : gC h1 n N := ⟨by rw [(hm 1 (by decide)).1]; exact g.1, by rw [(hm 1 (by decide)).2]; exact g.2⟩
      have hL' : L = cvL n N := by rw [← hL]; simp [selA]
      subst hL'
      refine ev_iload_n dX2_minimalCovers_25 rfl ?_
      refine ev_aload_n dX2_minimalCovers_26 rfl ?_
      refine ev_getR fl_X2_9 rfl rfl dX2_minimalCovers_27 ?_
      refine ev_callV (cl_allVerticesC g1 hn) ok_X1_allVertices ml_X2_92 rfl rfl rfl rfl (Nat.le_of_ble_eq_true rfl) dX2_minimalCovers_30 (kI ?_)
      refine ev_icmp_gtN 74 dX2_minimalCovers_33 (by decide) (by omega) (by omega) (fun c33 => ?_) (fun c33 => ?_)
      · refine ev_aload_n dX2_minimalCovers_74 rfl ?_
        refine ev_iconst (nI 1) dX2_minimalCovers_75 rfl ?_
        refine ev_putI fp_X2_51 rfl rfl rfl rfl dX2_minimalCovers_76 ?_
        refine ev_aload_n dX2_minimalCovers_79 rfl ?_
        refine ev_getR fl_X2_26 rfl rfl dX2_minimalCovers_80 ?_
        refine ev_aret dX2_minimalCovers_83 rfl ?_
        refine ⟨rfl, (hm.mono (fun k z => z.2)).tr (same_put (by simp)), fun j hj => ?_, mp_eq _ _ _ _, ?_, ?_, ?_, ?_⟩
        · rw [mp_j hj, (hm 4 (by decide)).1]
        · rw [mp_k (by decide)]; exact e1
        · rw [mp_k (by decide)]; exact e2
        · rw [mp_k (by decide)]; exact e3
        · rw [mp_k (by decide)]; exact e4
      · omega
    | succ k ih =>
      intro s L h1 hs hm hL e1 e2 e3 e4
      have g1 : gC h1 n N := ⟨by rw [(hm 1 (by decide)).1]; exact g.1, by rw [(hm 1 (by decide)).2]; exact g.2⟩
      have q1 := b01_lt (MinC n N s)
      refine ev_iload_n dX2_minimalCovers_25 rfl ?_
      refine ev_aload_n dX2_minimalCovers_26 rfl ?_
      refine ev_getR fl_X2_9 rfl rfl dX2_minimalCovers_27 ?_
      refine ev_callV (cl_allVerticesC g1 hn) ok_X1_allVertices ml_X2_92 rfl rfl rfl rfl (Nat.le_of_ble_eq_true rfl) dX2_minimalCovers_30 (kI ?_)
      refine ev_icmp_gtN 74 dX2_minimalCovers_33 (by decide) (by omega) (by omega) (fun c33 => ?_) (fun c33 => ?_)
      · omega
      · refine ev_aload_n dX2_minimalCovers_36 rfl ?_
        refine ev_getR fl_X2_9 rfl rfl dX2_minimalCovers_37 ?_
        refine ev_iload_n dX2_minimalCovers_40 rfl ?_
        refine ev_callV (cl_isMinimalCoverC g1 ok (by omega)) ok_X1_isMinimalCover ml_X2_96 rfl rfl rfl rfl (Nat.le_of_ble_eq_true rfl) dX2_minimalCovers_41 (kI ?_)
        refine ev_if_eqN 68 dX2_minimalCovers_44 (by decide) (by omega) (fun c44 => ?_) (fun c44 => ?_)
        · refine ev_inc1N dX2_minimalCovers_68 (by decide) rfl ?_
          refine ev_goto 25 dX2_minimalCovers_71 (by decide) ?_
          rw [selA_f (b01_0.mp c44)] at hL
          exact ih (s + 1) L h1 (by omega) hm hL e1 e2 e3 e4
        · have hp : MinC n N s := b01_1.mp (by omega)
          rw [selA_t hp] at hL
          have hlen : L.length < 35 := by
            have := congrArg List.length hL
            simp at this; omega
          refine ev_aload_n dX2_minimalCovers_47 rfl ?_
          refine ev_getR fl_X2_26 rfl rfl dX2_minimalCovers_48 ?_
          refine ev_iload_n dX2_minimalCovers_51 rfl ?_
          refine ev_callV (cl_add row_6 e1 hlen) ok_X7_add ml_X2_100 rfl rfl rfl rfl (Nat.le_of_ble_eq_true rfl) dX2_minimalCovers_52 (kI ?_)
          refine ev_pop dX2_minimalCovers_55 rfl ?_
          refine ev_aload_n dX2_minimalCovers_56 rfl ?_
          refine ev_getR fl_X2_30 rfl rfl dX2_minimalCovers_57 ?_
          refine ev_iload_n dX2_minimalCovers_60 rfl ?_
          refine ev_callS (cl_maskOf (by omega)) ok_X6_maskOf ml_X2_103 rfl rfl (Nat.le_of_ble_eq_true rfl) dX2_minimalCovers_61 (kI ?_)
          refine ev_callV (cl_add row_8 (show _ = nI L.length by rw [ra_k (by decide) (by decide)]; exact e3) hlen) ok_X7_add ml_X2_100 rfl rfl rfl rfl (Nat.le_of_ble_eq_true rfl) dX2_minimalCovers_64 (kI ?_)
          refine ev_pop dX2_minimalCovers_67 rfl ?_
          refine ev_inc1N dX2_minimalCovers_68 (by decide) rfl ?_
          refine ev_goto 25 dX2_minimalCovers_71 (by decide) ?_
          refine ih (s + 1) (L ++ [s]) _ (by omega) ?_ (by rw [List.append_assoc]; exact hL) ?_ ?_ ?_ ?_
          · intro k hk
            refine ⟨?_, ?_⟩
            · rw [ra_k hk.2.2.1 hk.2.2.2, ra_k hk.1 hk.2.1]; exact (hm k hk).1
            · exact (hm k hk).2
          · rw [ra_k (by decide) (by decide), ra_cnt]; simp
          · rw [ra_k (by decide) (by decide), ra_arr]; exact hold_snoc e2
          · rw [ra_cnt]; simp
          · rw [ra_arr, ra_k (by decide) (by decide), List.map_append]
            have := hold_snoc (x := mk s) e4
            rw [List.length_map] at this
            exact this
  refine ev_start 1 (lv := [some (.ref 4), none]) rfl (by decide) (Nat.le_of_ble_eq_true rfl) ?_
  refine ev_aload_n dX2_minimalCovers_0 rfl ?_
  refine ev_getIv (hk) fl_X2_51 rfl rfl dX2_minimalCovers_1 ?_
  refine ev_if_neN 79 dX2_minimalCovers_4 (by decide) (by omega) (fun c4 => ?_) (fun c4 => ?_)
  · exact absurd rfl c4
  · refine ev_aload_n dX2_minimalCovers_7 rfl ?_
    refine ev_getR fl_X2_26 rfl rfl dX2_minimalCovers_8 ?_
    refine ev_iconst (nI 0) dX2_minimalCovers_11 rfl ?_
    refine ev_putI fp_X2_89 rfl rfl rfl rfl dX2_minimalCovers_12 ?_
    refine ev_aload_n dX2_minimalCovers_15 rfl ?_
    refine ev_getR fl_X2_30 rfl rfl dX2_minimalCovers_16 ?_
    refine ev_iconst (nI 0) dX2_minimalCovers_19 rfl ?_
    refine ev_putI fp_X2_89 rfl rfl rfl rfl dX2_minimalCovers_20 ?_
    refine ev_iconst (nI 0) dX2_minimalCovers_23 rfl ?_
    refine ev_ist1 dX2_minimalCovers_24 (by decide) rfl ?_
    refine loop (2 ^ n) 0 [] _ (by omega) ((same_put (by simp)).tr (same_put (by simp))) rfl ?_ (hold_nil _) ?_ (hold_nil _)
    · rw [mp_k (by decide), mp_eq]; rfl
    · rw [mp_eq]; rfl
/-! the symbolic order -/
def mnf (f : Nat → Nat) : List Nat → Nat → Nat
  | [], b => b
  | c :: l, b => mnf f l (min b (f c))
theorem mnf_app (f : Nat → Nat) (a : List Nat) (c b : Nat) : mnf f (a ++ [c]) b = min (mnf f a b) (f c) := by
  induction a generalizing b with
  | nil => rfl
  | cons x a ih => exact ih _
theorem mnf_le (f : Nat → Nat) : ∀ (l : List Nat) (b s : Nat), s ≤ mnf f l b ↔ s ≤ b ∧ ∀ c, c ∈ l → s ≤ f c
  | [], b, s => by simp [mnf]
  | c :: l, b, s => by
    rw [show mnf f (c :: l) b = mnf f l (min b (f c)) from rfl, mnf_le f l]
    constructor
    · rintro ⟨h1, h2⟩
      refine ⟨by omega, fun x hx => ?_⟩
      rcases List.mem_cons.mp hx with rfl | h
      · omega
      · exact h2 x h
    · rintro ⟨h1, h2⟩
      have := h2 c List.mem_cons_self
      exact ⟨by omega, fun x hx => h2 x (List.mem_cons_of_mem _ hx)⟩
theorem mnf_c {f g : Nat → Nat} : ∀ (l : List Nat) (b : Nat), (∀ c, c ∈ l → f c = g c) → mnf f l b = mnf g l b
  | [], _, _ => rfl
  | c :: l, b, h => by
    show mnf f l (min b (f c)) = mnf g l (min b (g c))
    rw [h c List.mem_cons_self]
    exact mnf_c l _ (fun x hx => h x (List.mem_cons_of_mem _ hx))
noncomputable def so (n N m : Nat) : Nat := mnf (fun c => deg (m &&& mk c)) (cvL n N) 21
theorem so_le (n N m : Nat) : so n N m ≤ 21 := ((mnf_le _ _ _ _).mp (Nat.le_refl (so n N m))).1
theorem take_snoc {L : List Nat} {i : Nat} (hi : i < L.length) : L.take (i + 1) = L.take i ++ [L.getD i 0] := by
  rw [List.take_succ, List.getD_eq_getElem?_getD, List.getElem?_eq_getElem hi]; rfl
theorem getD_mem {L : List Nat} {i : Nat} (hi : i < L.length) : L.getD i 0 ∈ L := by
  rw [List.getD_eq_getElem?_getD, List.getElem?_eq_getElem hi]; exact List.getElem_mem hi
theorem getD_map {L : List Nat} {i : Nat} (hi : i < L.length) (f : Nat → Nat) : (L.map f).getD i 0 = f (L.getD i 0) := by
  rw [List.getD_eq_getElem?_getD, List.getD_eq_getElem?_getD, List.getElem?_map, List.getElem?_eq_getElem hi]; rfl
/-- behind minimalCovers -/
theorem so_loop {n N m : Nat} (ok : gOK n N) (kc : kC h n N) (hm : m < 4 ^ n) : Ev G (d + 2) M_X2_symbolicOrderOf 14 [some (.ref 4), some (.int (nI m)), some (.int (nI 21)), some (.int (nI (cvL n N).length)), some (.int (nI 0))] [] h (qI (nI (so n N m)) h) := by
  have hn := ok.2.1
  have h4 := four_n hn
  have l35 := cvL_len ok
  obtain ⟨k1, k2, k3, k4, k5⟩ := kc
  have loop : ∀ (k i : Nat), i + k = (cvL n N).length → Ev G (d + 2) M_X2_symbolicOrderOf 14 [some (.ref 4), some (.int (nI m)), some (.int (nI (mnf (fun c => deg (m &&& mk c)) ((cvL n N).take i) 21))), some (.int (nI (cvL n N).length)), some (.int (nI i))] [] h (qI (nI (so n N m)) h) := by
    intro k
    induction k with
    | zero =>
      intro i hi
      rw [List.take_of_length_le (by omega)]
      refine ev_iload dX2_symbolicOrderOf_14 rfl ?_
      refine ev_iload_n dX2_symbolicOrderOf_16 rfl ?_
      refine ev_icmp_geN 46 dX2_symbolicOrderOf_17 (by decide) (by omega) (by omega) (fun c17 => ?_) (fun c17 => ?_)
      · refine ev_iload_n dX2_symbolicOrderOf_46 rfl ?_
        refine ev_iret dX2_symbolicOrderOf_47 rfl ?_
        exact ⟨by unfold so; with_reducible rfl, rfl⟩
      · omega
    | succ k ih =>
      intro i hi
      have hb : mnf (fun c => deg (m &&& mk c)) ((cvL n N).take i) 21 ≤ 21 := ((mnf_le _ _ _ _).mp (Nat.le_refl _)).1
      have hv : h.1 9 i = nI (mk ((cvL n N).getD i 0)) := by rw [k5 i (by rw [List.length_map]; omega), getD_map (by omega)]
      have hc := cvL_lt ok (getD_mem (L := cvL n N) (i := i) (by omega))
      have a1 : m &&& mk ((cvL n N).getD i 0) < 16384 := and_lt (by omega)
      have dl := deg_le (m := m &&& mk ((cvL n N).getD i 0))
      have q := ih (i + 1) (by omega)
      rw [take_snoc (by omega), mnf_app] at q
      refine ev_iload dX2_symbolicOrderOf_14 rfl ?_
      refine ev_iload_n dX2_symbolicOrderOf_16 rfl ?_
      refine ev_icmp_geN 46 dX2_symbolicOrderOf_17 (by decide) (by omega) (by omega) (fun c17 => ?_) (fun c17 => ?_)
      · omega
      · refine ev_iload_n dX2_symbolicOrderOf_20 rfl ?_
        refine ev_iload_n dX2_symbolicOrderOf_21 rfl ?_
        refine ev_aload_n dX2_symbolicOrderOf_22 rfl ?_
        refine ev_getR fl_X2_30 rfl rfl dX2_symbolicOrderOf_23 ?_
        refine ev_getR fl_X2_110 rfl rfl dX2_symbolicOrderOf_26 ?_
        refine ev_iload dX2_symbolicOrderOf_29 rfl ?_
        refine ev_ialdv (hv) rfl dX2_symbolicOrderOf_31 (by omega) (by omega) ?_
        refine ev_iandN dX2_symbolicOrderOf_32 ?_
        refine ev_callS (cl_degreeOf a1) ok_X6_degreeOf ml_X2_119 rfl rfl (Nat.le_of_ble_eq_true rfl) dX2_symbolicOrderOf_33 (kI ?_)
        refine ev_minN ml_X2_116 (Nat.le_of_ble_eq_true rfl) dX2_symbolicOrderOf_36 (by omega) (by omega) ?_
        refine ev_ist2 dX2_symbolicOrderOf_39 (by decide) rfl ?_
        refine ev_inc4N dX2_symbolicOrderOf_40 (by decide) rfl ?_
        refine ev_goto 14 dX2_symbolicOrderOf_43 (by decide) ?_
        exact q
  exact loop (cvL n N).length 0 (by omega)
end COV
