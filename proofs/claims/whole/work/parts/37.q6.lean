section Q6
variable {G : MG} {d : Nat} {h : MH}
theorem nI_m2 {a : Nat} (h : a < 2 ^ 31) : nI a ≠ -2 := fun e => nI_pos h (by rw [e]; decide)
theorem nI_ij {a b : Nat} (ha : a < 2 ^ 31) (hb : b < 2 ^ 31) (e : nI a = nI b) : a = b := by
  have := congrArg Int32.toNatClampNeg e
  rwa [nI_clamp ha, nI_clamp hb] at this
theorem mism_iff {f g : Nat → Int32} {s t : Nat} (hs : s < 2 ^ 31) (ht : t < 2 ^ 31) : ∀ n i, i + n = min s t → (mism f g s t n i = -2 ↔ s = t ∧ ∀ j, i ≤ j → j < min s t → f j = g j)
  | 0, i, hi => by
    unfold mism
    by_cases e : s = t
    · rw [if_pos e]
      exact ⟨fun _ => ⟨e, fun j h1 h2 => absurd h2 (by omega)⟩, fun _ => rfl⟩
    · rw [if_neg e]
      exact ⟨fun z => absurd z (nI_m2 (by omega)), fun z => absurd z.1 e⟩
  | n + 1, i, hi => by
    unfold mism
    by_cases e : f i = g i
    · rw [if_pos e, mism_iff hs ht n (i + 1) (by omega)]
      refine and_congr_right (fun _ => ⟨fun z j h1 h2 => ?_, fun z j h1 h2 => z j (by omega) h2⟩)
      by_cases c : j = i
      · subst c; exact e
      · exact z j (by omega) h2
    · rw [if_neg e]
      exact ⟨fun z => absurd z (nI_m2 (by omega)), fun z => absurd (z.2 i (Nat.le_refl _) (by omega)) e⟩
theorem mism_2 {f g : Nat → Int32} {L K : List Nat} (h1 : hold f L) (h2 : hold g K) (l1 : L.length < 2 ^ 31) (l2 : K.length < 2 ^ 31) (b1 : ∀ x, x ∈ L → x < 2 ^ 31) (b2 : ∀ x, x ∈ K → x < 2 ^ 31) : mism f g L.length K.length (min L.length K.length) 0 = -2 ↔ L = K := by
  rw [mism_iff l1 l2 _ 0 (by omega)]
  constructor
  · rintro ⟨e, q⟩
    apply List.ext_getElem e
    intro i a b
    have c := q i (by omega) (by omega)
    rw [h1 i a, h2 i b] at c
    have c2 := nI_ij (b1 _ (getD_mem a)) (b2 _ (getD_mem b)) c
    rwa [List.getD_eq_getElem?_getD, List.getElem?_eq_getElem a, List.getD_eq_getElem?_getD, List.getElem?_eq_getElem b] at c2
  · rintro rfl
    exact ⟨rfl, fun j _ h3 => by rw [h1 j (by omega), h2 j (by omega)]⟩
theorem gnL_b {n N s x : Nat} (hn : n ≤ 7) (hx : x ∈ gnL n N s) : x < 2 ^ 31 := by
  have := ((selD_mem _).mp hx).1
  have := four_n hn
  omega
theorem sgL_b {n N s x : Nat} (hn : n ≤ 7) (hx : x ∈ sgL n N s) : x < 2 ^ 31 := by
  have := ((selD_mem _).mp hx).1
  have := four_n hn
  omega
noncomputable def aAgree (n N : Nat) (x : Int32) : Int32 := aRg x 1 3 (fun s => nI (b01 (gnL n N s = sgL n N s)))
theorem agree_iff {n N s : Nat} (ok : gOK n N) : gnL n N s = sgL n N s ↔ ∀ m, m < 4 ^ n → (GN n N 0 s m ↔ GN n N 1 s m) := by
  rw [← gL_0 ok, ← gL_1]
  constructor
  · intro e m hm
    have := selD_mem (P := GN n N 0 s) (x := m) (4 ^ n)
    have h2 := selD_mem (P := GN n N 1 s) (x := m) (4 ^ n)
    have e' : selD (GN n N 0 s) (4 ^ n) = selD (GN n N 1 s) (4 ^ n) := e
    rw [e', h2] at this
    exact ⟨fun z => (this.mpr ⟨hm, z⟩).2, fun z => (this.mp ⟨hm, z⟩).2⟩
  · intro q
    exact selD_c _ q
theorem cl_powersAgreeC {n N : Nat} {x : Int32} (g : gC h n N) (ok : gOK n N) (c : cI h n N) : Cl G (d + 4) M_X11_powersAgree [.ref 0, .int x] h (fun rv h' => rv = some (.int (aAgree n N x)) ∧ iq n N h h' ∧ cI h' n N) := by
  have hn := ok.2.1
  unfold aAgree
  by_cases hx : rg x 1 3
  · have q1 := b01_t hx
    obtain ⟨k, hk, rfl⟩ := rg_p hx
    have hl1 := gnL_len (N := N) hn (show 1 ≤ k + 1 by omega) (by omega)
    have hl2 := sgL_len (N := N) (s := k + 1) ok
    obtain ⟨hp, ha, hcap⟩ := rowG hk
    obtain ⟨hq, hb, hcaq⟩ := rowS hk
    rw [aRg_p hk]
    refine ev_start 0 (lv := [some (.ref 0), some (.int (nI (k + 1)))]) rfl (by decide) (Nat.le_of_ble_eq_true rfl) ?_
    refine ev_iload_n dX11_powersAgree_0 rfl ?_
    refine ev_callS (cl_isPowerC) ok_X11_isPower ml_X11_188 rfl rfl (Nat.le_of_ble_eq_true rfl) dX11_powersAgree_1 (kI ?_)
    refine ev_if_neN 9 dX11_powersAgree_4 (by decide) (by omega) (fun c4 => ?_) (fun c4 => ?_)
    · refine ev_aload_n dX11_powersAgree_9 rfl ?_
      refine ev_getR fl_X11_23 rfl rfl dX11_powersAgree_10 ?_
      refine ev_iload_n dX11_powersAgree_13 rfl ?_
      refine ev_callV (cl_generators g ok c hk) ok_X2_generators ml_X11_191 rfl rfl rfl rfl (Nat.le_of_ble_eq_true rfl) dX11_powersAgree_14 ?_
      rintro rv h1 ⟨rfl, i1, c1, kg⟩
      refine ev_aload_n dX11_powersAgree_17 rfl ?_
      refine ev_getR fl_X11_23 rfl rfl dX11_powersAgree_18 ?_
      refine ev_iload_n dX11_powersAgree_21 rfl ?_
      refine ev_callV (cl_symbolicGenerators (gC_iq g i1) ok c1 hk) ok_X2_symbolicGenerators ml_X11_194 rfl rfl rfl rfl (Nat.le_of_ble_eq_true rfl) dX11_powersAgree_22 ?_
      rintro rv h2 ⟨rfl, i2, c2, rs, e11⟩
      have rp : rowIs h2 (14 + 2 * k) (gnL n N (k + 1)) := by
        obtain ⟨⟨ko, -, z⟩, -⟩ := c2
        rcases z k hk with w | ⟨-, w, -⟩
        · rw [e11, kg.1] at w; exact absurd w (by decide)
        · exact w
      have mi := mism_2 rp.2 rs.2 (by omega) (by omega) (fun x hx => gnL_b hn hx) (fun x hx => sgL_b hn hx)
      refine ev_callV (cl_mismatch (rowG hk) (rowS hk) rp.1 rs.1 hl1 hl2) ok_X7_mismatch ml_X11_197 hp rfl rfl rfl (Nat.le_of_ble_eq_true rfl) dX11_powersAgree_25 (kI ?_)
      refine ev_bipush (-2) dX11_powersAgree_28 rfl ?_
      refine ev_icmp_ne 37 dX11_powersAgree_30 (by decide) (fun c30 => ?_) (fun c30 => ?_)
      · refine ev_iconst (nI 0) dX11_powersAgree_37 rfl ?_
        refine ev_iret dX11_powersAgree_38 rfl ?_
        exact ⟨by rw [b01_f (fun z => c30 (mi.mpr z))], i1.tr i2, c2⟩
      · refine ev_iconst (nI 1) dX11_powersAgree_33 rfl ?_
        refine ev_goto 38 dX11_powersAgree_34 (by decide) ?_
        refine ev_iret dX11_powersAgree_38 rfl ?_
        exact ⟨by rw [b01_t (mi.mp c30)], i1.tr i2, c2⟩
    · omega
  · have q1 := b01_f hx
    rw [aRg_f hx]
    refine ev_start 0 (lv := [some (.ref 0), some (.int x)]) rfl (by decide) (Nat.le_of_ble_eq_true rfl) ?_
    refine ev_iload_n dX11_powersAgree_0 rfl ?_
    refine ev_callS (cl_isPowerC) ok_X11_isPower ml_X11_188 rfl rfl (Nat.le_of_ble_eq_true rfl) dX11_powersAgree_1 (kI ?_)
    refine ev_if_neN 9 dX11_powersAgree_4 (by decide) (by omega) (fun c4 => ?_) (fun c4 => ?_)
    · omega
    · refine ev_iconst (-1) dX11_powersAgree_7 rfl ?_
      refine ev_iret dX11_powersAgree_8 rfl ?_
      exact ⟨rfl, iq.rf, c⟩
theorem cl_powersAgreeM {n N : Nat} {x : Int32} (g : gM h n N) (ok : gOK n N) (c : cacheM h n N) : Cl G (d + 3) M_X12_powersAgree [.ref 67, .int x] h (fun rv h' => rv = some (.int (aAgree n N x)) ∧ ms h h' ∧ cacheM h' n N) := by
  have hn := ok.2.1
  have h4 := four_n hn
  unfold aAgree
  by_cases hx : rg x 1 3
  · have q1 := b01_t hx
    obtain ⟨k, hk, rfl⟩ := rg_p hx
    rw [aRg_p hk]
    have loop : ∀ (h1 : MH), gM h1 n N → tM h1 n N → ∀ (j v : Nat), v + j = 4 ^ n → (∀ m, m < v → (GN n N 0 (k + 1) m ↔ GN n N 1 (k + 1) m)) → Ev G (d + 3) M_X12_powersAgree 15 [some (.ref 67), some (.int (nI (k + 1))), some (.int (nI v))] [] h1 (qI (nI (b01 (gnL n N (k + 1) = sgL n N (k + 1)))) h1) := by
      intro h1 g1 t1 j
      induction j with
      | zero =>
        intro v hv hw
        refine ev_iload_n dX12_powersAgree_15 rfl ?_
        refine ev_aload_n dX12_powersAgree_16 rfl ?_
        refine ev_callV (cl_codeCount g1 hn) ok_X12_codeCount ml_X12_125 rfl rfl rfl rfl (Nat.le_of_ble_eq_true rfl) dX12_powersAgree_17 (kI ?_)
        refine ev_icmp_geN 48 dX12_powersAgree_20 (by decide) (by omega) (by omega) (fun c20 => ?_) (fun c20 => ?_)
        · refine ev_iconst (nI 1) dX12_powersAgree_48 rfl ?_
          refine ev_iret dX12_powersAgree_49 rfl ?_
          exact ⟨by rw [b01_t ((agree_iff ok).mpr (fun m hm => hw m (by omega)))], rfl⟩
        · omega
      | succ j ih =>
        intro v hv hw
        have y0 := b01_lt (GN n N 0 (k + 1) v)
        have y1 := b01_lt (GN n N 1 (k + 1) v)
        refine ev_iload_n dX12_powersAgree_15 rfl ?_
        refine ev_aload_n dX12_powersAgree_16 rfl ?_
        refine ev_callV (cl_codeCount g1 hn) ok_X12_codeCount ml_X12_125 rfl rfl rfl rfl (Nat.le_of_ble_eq_true rfl) dX12_powersAgree_17 (kI ?_)
        refine ev_icmp_geN 48 dX12_powersAgree_20 (by decide) (by omega) (by omega) (fun c20 => ?_) (fun c20 => ?_)
        · omega
        · refine ev_aload_n dX12_powersAgree_23 rfl ?_
          refine ev_iload_n dX12_powersAgree_24 rfl ?_
          refine ev_iload_n dX12_powersAgree_25 rfl ?_
          refine ev_iconst (nI 0) dX12_powersAgree_26 rfl ?_
          refine ev_callV (cl_isGenerator g1 ok t1 (by omega) (by omega) (by decide)) ok_X12_isGenerator ml_X12_180 rfl rfl rfl rfl (Nat.le_of_ble_eq_true rfl) dX12_powersAgree_27 (kI ?_)
          refine ev_aload_n dX12_powersAgree_30 rfl ?_
          refine ev_iload_n dX12_powersAgree_31 rfl ?_
          refine ev_iload_n dX12_powersAgree_32 rfl ?_
          refine ev_iconst (nI 1) dX12_powersAgree_33 rfl ?_
          refine ev_callV (cl_isGenerator g1 ok t1 (by omega) (by omega) (by decide)) ok_X12_isGenerator ml_X12_180 rfl rfl rfl rfl (Nat.le_of_ble_eq_true rfl) dX12_powersAgree_34 (kI ?_)
          refine ev_icmp_eqN 42 dX12_powersAgree_37 (by decide) (by omega) (by omega) (fun c37 => ?_) (fun c37 => ?_)
          · refine ev_inc2N dX12_powersAgree_42 (by decide) rfl ?_
            refine ev_goto 15 dX12_powersAgree_45 (by decide) ?_
            refine ih (v + 1) (by omega) (fun m hm => ?_)
            by_cases e : m = v
            · subst e
              constructor
              · intro z; rw [b01_t z] at c37; exact b01_1.mp c37.symm
              · intro z; rw [b01_t z] at c37; exact b01_1.mp c37
            · exact hw m (by omega)
          · refine ev_iconst (nI 0) dX12_powersAgree_40 rfl ?_
            refine ev_iret dX12_powersAgree_41 rfl ?_
            exact ⟨by
            rw [b01_f (fun z => c37 (b01_c ((agree_iff ok).mp z v (by omega))))], rfl⟩
    refine ev_start 1 (lv := [some (.ref 67), some (.int (nI (k + 1))), none]) rfl (by decide) (Nat.le_of_ble_eq_true rfl) ?_
    refine ev_iload_n dX12_powersAgree_0 rfl ?_
    refine ev_callS (cl_isPowerM) ok_X12_isPower ml_X12_185 rfl rfl (Nat.le_of_ble_eq_true rfl) dX12_powersAgree_1 (kI ?_)
    refine ev_if_neN 9 dX12_powersAgree_4 (by decide) (by omega) (fun c4 => ?_) (fun c4 => ?_)
    · refine ev_aload_n dX12_powersAgree_9 rfl ?_
      refine ev_callV (cl_update g ok c) ok_X12_update ml_X12_144 rfl rfl rfl rfl (Nat.le_of_ble_eq_true rfl) dX12_powersAgree_10 ?_
      rintro rv h1 ⟨rfl, m1, t1⟩
      refine ev_iconst (nI 0) dX12_powersAgree_13 rfl ?_
      refine ev_ist2 dX12_powersAgree_14 (by decide) rfl ?_
      refine ev_mono ?_ (loop h1 (gM_mq g m1) t1 (4 ^ n) 0 (by omega) (fun m hm => absurd hm (by omega)))
      rintro rv h2 ⟨rfl, rfl⟩
      exact ⟨rfl, ms_mq m1, Or.inr t1⟩
    · omega
  · have q1 := b01_f hx
    rw [aRg_f hx]
    refine ev_start 1 (lv := [some (.ref 67), some (.int x), none]) rfl (by decide) (Nat.le_of_ble_eq_true rfl) ?_
    refine ev_iload_n dX12_powersAgree_0 rfl ?_
    refine ev_callS (cl_isPowerM) ok_X12_isPower ml_X12_185 rfl rfl (Nat.le_of_ble_eq_true rfl) dX12_powersAgree_1 (kI ?_)
    refine ev_if_neN 9 dX12_powersAgree_4 (by decide) (by omega) (fun c4 => ?_) (fun c4 => ?_)
    · omega
    · refine ev_iconst (-1) dX12_powersAgree_7 rfl ?_
      refine ev_iret dX12_powersAgree_8 rfl ?_
      exact ⟨rfl, mod.rf, c⟩
noncomputable def aFirst (n N : Nat) (x : Int32) : Int32 := aRg x 1 3 (fun s => fnd (fun m => SG n N s m ∧ ¬ s ≤ ord n N m) (4 ^ n))
theorem cl_firstDifferenceC {n N : Nat} {x : Int32} (g : gC h n N) (ok : gOK n N) (c : cI h n N) : Cl G (d + 5) M_X11_firstDifference [.ref 0, .int x] h (fun rv h' => rv = some (.int (aFirst n N x)) ∧ iq n N h h' ∧ cI h' n N) := by
  unfold aFirst
  by_cases hx : rg x 1 3
  · have q1 := b01_t hx
    obtain ⟨k, hk, rfl⟩ := rg_p hx
    rw [aRg_p hk]
    refine ev_start 0 (lv := [some (.ref 0), some (.int (nI (k + 1)))]) rfl (by decide) (Nat.le_of_ble_eq_true rfl) ?_
    refine ev_iload_n dX11_firstDifference_0 rfl ?_
    refine ev_callS (cl_isPowerC) ok_X11_isPower ml_X11_188 rfl rfl (Nat.le_of_ble_eq_true rfl) dX11_firstDifference_1 (kI ?_)
    refine ev_if_eqN 18 dX11_firstDifference_4 (by decide) (by omega) (fun c4 => ?_) (fun c4 => ?_)
    · omega
    · refine ev_aload_n dX11_firstDifference_7 rfl ?_
      refine ev_getR fl_X11_23 rfl rfl dX11_firstDifference_8 ?_
      refine ev_iload_n dX11_firstDifference_11 rfl ?_
      refine ev_callV (cl_lowestOnlySymbolic g ok c hk) ok_X2_lowestOnlySymbolic ml_X11_201 rfl rfl rfl rfl (Nat.le_of_ble_eq_true rfl) dX11_firstDifference_12 ?_
      rintro rv h1 ⟨rfl, i1, c1⟩
      refine ev_goto 19 dX11_firstDifference_15 (by decide) ?_
      refine ev_iret dX11_firstDifference_19 rfl ?_
      exact ⟨rfl, i1, c1⟩
  · have q1 := b01_f hx
    rw [aRg_f hx]
    refine ev_start 0 (lv := [some (.ref 0), some (.int x)]) rfl (by decide) (Nat.le_of_ble_eq_true rfl) ?_
    refine ev_iload_n dX11_firstDifference_0 rfl ?_
    refine ev_callS (cl_isPowerC) ok_X11_isPower ml_X11_188 rfl rfl (Nat.le_of_ble_eq_true rfl) dX11_firstDifference_1 (kI ?_)
    refine ev_if_eqN 18 dX11_firstDifference_4 (by decide) (by omega) (fun c4 => ?_) (fun c4 => ?_)
    · refine ev_iconst (-1) dX11_firstDifference_18 rfl ?_
      refine ev_iret dX11_firstDifference_19 rfl ?_
      exact ⟨rfl, iq.rf, c⟩
    · omega
theorem cl_firstDifferenceM {n N : Nat} {x : Int32} (g : gM h n N) (ok : gOK n N) (c : cacheM h n N) : Cl G (d + 3) M_X12_firstDifference [.ref 67, .int x] h (fun rv h' => rv = some (.int (aFirst n N x)) ∧ ms h h' ∧ cacheM h' n N) := by
  have hn := ok.2.1
  have h4 := four_n hn
  unfold aFirst
  by_cases hx : rg x 1 3
  · have q1 := b01_t hx
    obtain ⟨k, hk, rfl⟩ := rg_p hx
    rw [aRg_p hk]
    generalize hF : fnd (fun m => SG n N (k + 1) m ∧ ¬ k + 1 ≤ ord n N m) (4 ^ n) = A
    have loop : ∀ (h1 : MH), gM h1 n N → tM h1 n N → ∀ (j v : Nat), v + j = 4 ^ n → srch (fun m => SG n N (k + 1) m ∧ ¬ k + 1 ≤ ord n N m) (4 ^ n) 0 = srch (fun m => SG n N (k + 1) m ∧ ¬ k + 1 ≤ ord n N m) j v → Ev G (d + 3) M_X12_firstDifference 15 [some (.ref 67), some (.int (nI (k + 1))), some (.int (nI v))] [] h1 (qI A h1) := by
      intro h1 g1 t1 j
      induction j with
      | zero =>
        intro v hv hw
        have hA : A = -2 := by rw [← hF]; unfold fnd; rw [hw]; exact if_neg (by show ¬ v < 4 ^ n; omega)
        rw [hA]
        refine ev_iload_n dX12_firstDifference_15 rfl ?_
        refine ev_aload_n dX12_firstDifference_16 rfl ?_
        refine ev_callV (cl_codeCount g1 hn) ok_X12_codeCount ml_X12_125 rfl rfl rfl rfl (Nat.le_of_ble_eq_true rfl) dX12_firstDifference_17 (kI ?_)
        refine ev_icmp_geN 51 dX12_firstDifference_20 (by decide) (by omega) (by omega) (fun c20 => ?_) (fun c20 => ?_)
        · refine ev_bipush (-2) dX12_firstDifference_51 rfl ?_
          refine ev_iret dX12_firstDifference_53 rfl ?_
          exact ⟨by with_reducible rfl, rfl⟩
        · omega
      | succ j ih =>
        intro v hv hw
        have y0 := b01_lt (k + 1 ≤ vl n N 0 v)
        have y1 := b01_lt (GN n N 1 (k + 1) v)
        refine ev_iload_n dX12_firstDifference_15 rfl ?_
        refine ev_aload_n dX12_firstDifference_16 rfl ?_
        refine ev_callV (cl_codeCount g1 hn) ok_X12_codeCount ml_X12_125 rfl rfl rfl rfl (Nat.le_of_ble_eq_true rfl) dX12_firstDifference_17 (kI ?_)
        refine ev_icmp_geN 51 dX12_firstDifference_20 (by decide) (by omega) (by omega) (fun c20 => ?_) (fun c20 => ?_)
        · omega
        · refine ev_aload_n dX12_firstDifference_23 rfl ?_
          refine ev_iload_n dX12_firstDifference_24 rfl ?_
          refine ev_iload_n dX12_firstDifference_25 rfl ?_
          refine ev_iconst (nI 1) dX12_firstDifference_26 rfl ?_
          refine ev_callV (cl_isGenerator g1 ok t1 (by omega) (by omega) (by decide)) ok_X12_isGenerator ml_X12_180 rfl rfl rfl rfl (Nat.le_of_ble_eq_true rfl) dX12_firstDifference_27 (kI ?_)
          refine ev_if_eqN 45 dX12_firstDifference_30 (by decide) (by omega) (fun c30 => ?_) (fun c30 => ?_)
          · refine ev_inc2N dX12_firstDifference_45 (by decide) rfl ?_
            refine ev_goto 15 dX12_firstDifference_48 (by decide) ?_
            exact ih (v + 1) (by omega) (by rw [hw, srch_f (fun z => b01_0.mp c30 (GN_1.mpr z.1))])
          · refine ev_aload_n dX12_firstDifference_33 rfl ?_
            refine ev_iload_n dX12_firstDifference_34 rfl ?_
            refine ev_iload_n dX12_firstDifference_35 rfl ?_
            refine ev_iconst (nI 0) dX12_firstDifference_36 rfl ?_
            refine ev_callV (cl_isIn ok t1 (by omega) (by omega) (by decide)) ok_X12_isIn ml_X12_173 rfl rfl rfl rfl (Nat.le_of_ble_eq_true rfl) dX12_firstDifference_37 (kI ?_)
            refine ev_if_neN 45 dX12_firstDifference_40 (by decide) (by omega) (fun c40 => ?_) (fun c40 => ?_)
            · refine ev_inc2N dX12_firstDifference_45 (by decide) rfl ?_
              refine ev_goto 15 dX12_firstDifference_48 (by decide) ?_
              exact ih (v + 1) (by omega) (by rw [hw, srch_f (fun z => z.2 (b01_1.mp (show b01 (k + 1 ≤ vl n N 0 v) = 1 by omega)))])
            · refine ev_iload_n dX12_firstDifference_43 rfl ?_
              refine ev_iret dX12_firstDifference_44 rfl ?_
              have hP : SG n N (k + 1) v ∧ ¬ k + 1 ≤ ord n N v := ⟨GN_1.mp (b01_1.mp (by omega)), fun z => b01_0.mp (show b01 (k + 1 ≤ vl n N 0 v) = 0 by omega) z⟩
              have hA : A = nI v := by rw [← hF]; unfold fnd; rw [hw, srch_t hP]; exact if_pos (by omega)
              exact ⟨by rw [hA], rfl⟩
    refine ev_start 1 (lv := [some (.ref 67), some (.int (nI (k + 1))), none]) rfl (by decide) (Nat.le_of_ble_eq_true rfl) ?_
    refine ev_iload_n dX12_firstDifference_0 rfl ?_
    refine ev_callS (cl_isPowerM) ok_X12_isPower ml_X12_185 rfl rfl (Nat.le_of_ble_eq_true rfl) dX12_firstDifference_1 (kI ?_)
    refine ev_if_neN 9 dX12_firstDifference_4 (by decide) (by omega) (fun c4 => ?_) (fun c4 => ?_)
    · refine ev_aload_n dX12_firstDifference_9 rfl ?_
      refine ev_callV (cl_update g ok c) ok_X12_update ml_X12_144 rfl rfl rfl rfl (Nat.le_of_ble_eq_true rfl) dX12_firstDifference_10 ?_
      rintro rv h1 ⟨rfl, m1, t1⟩
      refine ev_iconst (nI 0) dX12_firstDifference_13 rfl ?_
      refine ev_ist2 dX12_firstDifference_14 (by decide) rfl ?_
      refine ev_mono ?_ (loop h1 (gM_mq g m1) t1 (4 ^ n) 0 (by omega) rfl)
      rintro rv h2 ⟨rfl, rfl⟩
      exact ⟨rfl, ms_mq m1, Or.inr t1⟩
    · omega
  · have q1 := b01_f hx
    rw [aRg_f hx]
    refine ev_start 1 (lv := [some (.ref 67), some (.int x), none]) rfl (by decide) (Nat.le_of_ble_eq_true rfl) ?_
    refine ev_iload_n dX12_firstDifference_0 rfl ?_
    refine ev_callS (cl_isPowerM) ok_X12_isPower ml_X12_185 rfl rfl (Nat.le_of_ble_eq_true rfl) dX12_firstDifference_1 (kI ?_)
    refine ev_if_neN 9 dX12_firstDifference_4 (by decide) (by omega) (fun c4 => ?_) (fun c4 => ?_)
    · omega
    · refine ev_iconst (-1) dX12_firstDifference_7 rfl ?_
      refine ev_iret dX12_firstDifference_8 rfl ?_
      exact ⟨rfl, mod.rf, c⟩
noncomputable def cnt (n N b s t k : Nat) : Nat := sumTo k (fun m => b01 (deg m = t ∧ s ≤ vl n N b m))
theorem cnt_le {n N b s t k : Nat} : cnt n N b s t k ≤ k := by
  have := sumTo_le (n := k) (b := 1) (f := fun m => b01 (deg m = t ∧ s ≤ vl n N b m)) (fun i _ => by have := b01_lt (deg i = t ∧ s ≤ vl n N b i); omega)
  unfold cnt; omega
theorem cnt_s {n N b s t k : Nat} : cnt n N b s t (k + 1) = cnt n N b s t k + b01 (deg k = t ∧ s ≤ vl n N b k) := rfl
noncomputable def aCnt (n N b : Nat) (x y : Int32) : Int32 := aRg x 1 3 (fun s => aRg y 0 21 (fun t => nI (cnt n N b s t (4 ^ n))))
theorem cl_countInPowerC {n N : Nat} {x y : Int32} (g : gC h n N) (ok : gOK n N) (c : cI h n N) : Cl G (d + 3) M_X11_countInPower [.ref 0, .int x, .int y] h (fun rv h' => rv = some (.int (aCnt n N 0 x y)) ∧ iq n N h h' ∧ cI h' n N) := by
  have hn := ok.2.1
  have h4 := four_n hn
  have h41 := four_pos n
  unfold aCnt
  by_cases hx : rg x 1 3
  · have q1 := b01_t hx
    obtain ⟨k, hk, rfl⟩ := rg_p hx
    rw [aRg_p hk]
    by_cases hy : rg y 0 21
    · have q2 := b01_t hy
      obtain ⟨t, t1, t2, rfl⟩ := hy
      rw [aRg_t t1 t2 (by decide)]
      have loop : ∀ (j v : Nat) (h1 : MH), v + j = 4 ^ n → iq n N h h1 → cI h1 n N → Ev G (d + 3) M_X11_countInPower 30 [some (.ref 0), some (.int (nI (k + 1))), some (.int (nI t)), some (.int (nI (cnt n N 0 (k + 1) t v))), some (.int (nI (4 ^ n - 1))), some (.int (nI v))] [] h1 (fun rv h' => rv = some (.int (nI (cnt n N 0 (k + 1) t (4 ^ n)))) ∧ iq n N h h' ∧ cI h' n N) := by
        intro j
        induction j with
        | zero =>
          intro v h1 hv i1 c1
          obtain rfl : v = 4 ^ n := by omega
          refine ev_iload dX11_countInPower_30 rfl ?_
          refine ev_iload dX11_countInPower_32 rfl ?_
          refine ev_icmp_gtN 68 dX11_countInPower_34 (by decide) (by omega) (by omega) (fun c34 => ?_) (fun c34 => ?_)
          · refine ev_iload_n dX11_countInPower_68 rfl ?_
            refine ev_iret dX11_countInPower_69 rfl ?_
            exact ⟨rfl, i1, c1⟩
          · omega
        | succ j ih =>
          intro v h1 hv i1 c1
          have g1 := gC_iq g i1
          have dl := deg_le (m := v)
          have cl := cnt_le (n := n) (N := N) (b := 0) (s := k + 1) (t := t) (k := v)
          have v1 := ord_le ok (m := v)
          have v2 := so_le n N v
          have q := ih (v + 1)
          rw [cnt_s] at q
          refine ev_iload dX11_countInPower_30 rfl ?_
          refine ev_iload dX11_countInPower_32 rfl ?_
          refine ev_icmp_gtN 68 dX11_countInPower_34 (by decide) (by omega) (by omega) (fun c34 => ?_) (fun c34 => ?_)
          · omega
          · refine ev_iload dX11_countInPower_37 rfl ?_
            refine ev_callS (cl_degreeOf (by omega)) ok_X6_degreeOf ml_X11_171 rfl rfl (Nat.le_of_ble_eq_true rfl) dX11_countInPower_39 (kI ?_)
            refine ev_iload_n dX11_countInPower_42 rfl ?_
            refine ev_icmp_neN 62 dX11_countInPower_43 (by decide) (by omega) (by omega) (fun c43 => ?_) (fun c43 => ?_)
            · refine ev_inc5N dX11_countInPower_62 (by decide) rfl ?_
              refine ev_goto 30 dX11_countInPower_65 (by decide) ?_
              rw [b01_f (fun z => c43 z.1)] at q
              exact q h1 (by omega) i1 c1
            · refine ev_aload_n dX11_countInPower_46 rfl ?_
              refine ev_getR fl_X11_23 rfl rfl dX11_countInPower_47 ?_
              refine ev_iload dX11_countInPower_50 rfl ?_
              refine ev_callV (cl_po g1 ok c1 (by omega)) ok_X2_powerOrderOf ml_X11_140 rfl rfl rfl rfl (Nat.le_of_ble_eq_true rfl) dX11_countInPower_52 ?_
              rintro rv h2 ⟨rfl, sm, sj, c2, ko, k1, k2, k3⟩
              have i2 : iq n N h1 h2 := ⟨sm.mono (fun k hk => by omega), fun ko0 q => ⟨ko, k3 ko0 q, k2⟩⟩
              refine ev_iload_n dX11_countInPower_55 rfl ?_
              refine ev_icmp_ltN 62 dX11_countInPower_56 (by decide) (by omega) (by omega) (fun c56 => ?_) (fun c56 => ?_)
              · refine ev_inc5N dX11_countInPower_62 (by decide) rfl ?_
                refine ev_goto 30 dX11_countInPower_65 (by decide) ?_
                rw [b01_f (fun z => absurd (show k + 1 ≤ ord n N v from z.2) (by omega))] at q
                exact q h2 (by omega) (i1.tr i2) c2
              · refine ev_inc3N dX11_countInPower_59 (by decide) rfl ?_
                refine ev_inc5N dX11_countInPower_62 (by decide) rfl ?_
                refine ev_goto 30 dX11_countInPower_65 (by decide) ?_
                rw [b01_t ⟨by omega, show k + 1 ≤ ord n N v by omega⟩] at q
                exact q h2 (by omega) (i1.tr i2) c2
      refine ev_start 3 (lv := [some (.ref 0), some (.int (nI (k + 1))), some (.int (nI t)), none, none, none]) rfl (by decide) (Nat.le_of_ble_eq_true rfl) ?_
      refine ev_iload_n dX11_countInPower_0 rfl ?_
      refine ev_callS (cl_isPowerC) ok_X11_isPower ml_X11_188 rfl rfl (Nat.le_of_ble_eq_true rfl) dX11_countInPower_1 (kI ?_)
      refine ev_if_eqN 14 dX11_countInPower_4 (by decide) (by omega) (fun c4 => ?_) (fun c4 => ?_)
      · omega
      · refine ev_iload_n dX11_countInPower_7 rfl ?_
        refine ev_callS (cl_isDegree) ok_X11_isDegree ml_X11_204 rfl rfl (Nat.le_of_ble_eq_true rfl) dX11_countInPower_8 (kI ?_)
        refine ev_if_neN 16 dX11_countInPower_11 (by decide) (by omega) (fun c11 => ?_) (fun c11 => ?_)
        · refine ev_iconst (nI 0) dX11_countInPower_16 rfl ?_
          refine ev_ist3 dX11_countInPower_17 (by decide) rfl ?_
          refine ev_aload_n dX11_countInPower_18 rfl ?_
          refine ev_getR fl_X11_14 rfl rfl dX11_countInPower_19 ?_
          refine ev_callV (cl_greatestCode g hn) ok_X1_greatestCode ml_X11_137 rfl rfl rfl rfl (Nat.le_of_ble_eq_true rfl) dX11_countInPower_22 (kI ?_)
          refine ev_ist4 dX11_countInPower_25 (by decide) rfl ?_
          refine ev_iconst (nI 0) dX11_countInPower_27 rfl ?_
          refine ev_ist5 dX11_countInPower_28 (by decide) rfl ?_
          exact loop (4 ^ n) 0 h (by omega) iq.rf c
        · omega
    · have q2 := b01_f hy
      rw [aRg_f hy]
      refine ev_start 3 (lv := [some (.ref 0), some (.int (nI (k + 1))), some (.int y), none, none, none]) rfl (by decide) (Nat.le_of_ble_eq_true rfl) ?_
      refine ev_iload_n dX11_countInPower_0 rfl ?_
      refine ev_callS (cl_isPowerC) ok_X11_isPower ml_X11_188 rfl rfl (Nat.le_of_ble_eq_true rfl) dX11_countInPower_1 (kI ?_)
      refine ev_if_eqN 14 dX11_countInPower_4 (by decide) (by omega) (fun c4 => ?_) (fun c4 => ?_)
      · omega
      · refine ev_iload_n dX11_countInPower_7 rfl ?_
        refine ev_callS (cl_isDegree) ok_X11_isDegree ml_X11_204 rfl rfl (Nat.le_of_ble_eq_true rfl) dX11_countInPower_8 (kI ?_)
        refine ev_if_neN 16 dX11_countInPower_11 (by decide) (by omega) (fun c11 => ?_) (fun c11 => ?_)
        · omega
        · refine ev_iconst (-1) dX11_countInPower_14 rfl ?_
          refine ev_iret dX11_countInPower_15 rfl ?_
          exact ⟨rfl, iq.rf, c⟩
  · have q1 := b01_f hx
    rw [aRg_f hx]
    refine ev_start 3 (lv := [some (.ref 0), some (.int x), some (.int y), none, none, none]) rfl (by decide) (Nat.le_of_ble_eq_true rfl) ?_
    refine ev_iload_n dX11_countInPower_0 rfl ?_
    refine ev_callS (cl_isPowerC) ok_X11_isPower ml_X11_188 rfl rfl (Nat.le_of_ble_eq_true rfl) dX11_countInPower_1 (kI ?_)
    refine ev_if_eqN 14 dX11_countInPower_4 (by decide) (by omega) (fun c4 => ?_) (fun c4 => ?_)
    · refine ev_iconst (-1) dX11_countInPower_14 rfl ?_
      refine ev_iret dX11_countInPower_15 rfl ?_
      exact ⟨rfl, iq.rf, c⟩
    · omega
theorem cl_countInSymbolicPowerC {n N : Nat} {x y : Int32} (g : gC h n N) (ok : gOK n N) (c : cI h n N) : Cl G (d + 4) M_X11_countInSymbolicPower [.ref 0, .int x, .int y] h (fun rv h' => rv = some (.int (aCnt n N 1 x y)) ∧ iq n N h h' ∧ cI h' n N) := by
  have hn := ok.2.1
  have h4 := four_n hn
  have h41 := four_pos n
  unfold aCnt
  by_cases hx : rg x 1 3
  · have q1 := b01_t hx
    obtain ⟨k, hk, rfl⟩ := rg_p hx
    rw [aRg_p hk]
    by_cases hy : rg y 0 21
    · have q2 := b01_t hy
      obtain ⟨t, t1, t2, rfl⟩ := hy
      rw [aRg_t t1 t2 (by decide)]
      have loop : ∀ (j v : Nat) (h1 : MH), v + j = 4 ^ n → iq n N h h1 → cI h1 n N → Ev G (d + 4) M_X11_countInSymbolicPower 30 [some (.ref 0), some (.int (nI (k + 1))), some (.int (nI t)), some (.int (nI (cnt n N 1 (k + 1) t v))), some (.int (nI (4 ^ n - 1))), some (.int (nI v))] [] h1 (fun rv h' => rv = some (.int (nI (cnt n N 1 (k + 1) t (4 ^ n)))) ∧ iq n N h h' ∧ cI h' n N) := by
        intro j
        induction j with
        | zero =>
          intro v h1 hv i1 c1
          obtain rfl : v = 4 ^ n := by omega
          refine ev_iload dX11_countInSymbolicPower_30 rfl ?_
          refine ev_iload dX11_countInSymbolicPower_32 rfl ?_
          refine ev_icmp_gtN 68 dX11_countInSymbolicPower_34 (by decide) (by omega) (by omega) (fun c34 => ?_) (fun c34 => ?_)
          · refine ev_iload_n dX11_countInSymbolicPower_68 rfl ?_
            refine ev_iret dX11_countInSymbolicPower_69 rfl ?_
            exact ⟨rfl, i1, c1⟩
          · omega
        | succ j ih =>
          intro v h1 hv i1 c1
          have g1 := gC_iq g i1
          have dl := deg_le (m := v)
          have cl := cnt_le (n := n) (N := N) (b := 1) (s := k + 1) (t := t) (k := v)
          have v1 := ord_le ok (m := v)
          have v2 := so_le n N v
          have q := ih (v + 1)
          rw [cnt_s] at q
          refine ev_iload dX11_countInSymbolicPower_30 rfl ?_
          refine ev_iload dX11_countInSymbolicPower_32 rfl ?_
          refine ev_icmp_gtN 68 dX11_countInSymbolicPower_34 (by decide) (by omega) (by omega) (fun c34 => ?_) (fun c34 => ?_)
          · omega
          · refine ev_iload dX11_countInSymbolicPower_37 rfl ?_
            refine ev_callS (cl_degreeOf (by omega)) ok_X6_degreeOf ml_X11_171 rfl rfl (Nat.le_of_ble_eq_true rfl) dX11_countInSymbolicPower_39 (kI ?_)
            refine ev_iload_n dX11_countInSymbolicPower_42 rfl ?_
            refine ev_icmp_neN 62 dX11_countInSymbolicPower_43 (by decide) (by omega) (by omega) (fun c43 => ?_) (fun c43 => ?_)
            · refine ev_inc5N dX11_countInSymbolicPower_62 (by decide) rfl ?_
              refine ev_goto 30 dX11_countInSymbolicPower_65 (by decide) ?_
              rw [b01_f (fun z => c43 z.1)] at q
              exact q h1 (by omega) i1 c1
            · refine ev_aload_n dX11_countInSymbolicPower_46 rfl ?_
              refine ev_getR fl_X11_23 rfl rfl dX11_countInSymbolicPower_47 ?_
              refine ev_iload dX11_countInSymbolicPower_50 rfl ?_
              refine ev_callV (cl_so g1 ok c1 (by omega)) ok_X2_symbolicOrderOf ml_X11_178 rfl rfl rfl rfl (Nat.le_of_ble_eq_true rfl) dX11_countInSymbolicPower_52 ?_
              rintro rv h2 ⟨rfl, sm, sj, c2⟩
              have i2 : iq n N h1 h2 := iq_of (sm.mono (fun k hk => by omega)) (sj 2 (by decide)) (sm 5 (by decide)).1
              refine ev_iload_n dX11_countInSymbolicPower_55 rfl ?_
              refine ev_icmp_ltN 62 dX11_countInSymbolicPower_56 (by decide) (by omega) (by omega) (fun c56 => ?_) (fun c56 => ?_)
              · refine ev_inc5N dX11_countInSymbolicPower_62 (by decide) rfl ?_
                refine ev_goto 30 dX11_countInSymbolicPower_65 (by decide) ?_
                rw [b01_f (fun z => absurd (show k + 1 ≤ so n N v from z.2) (by omega))] at q
                exact q h2 (by omega) (i1.tr i2) c2
              · refine ev_inc3N dX11_countInSymbolicPower_59 (by decide) rfl ?_
                refine ev_inc5N dX11_countInSymbolicPower_62 (by decide) rfl ?_
                refine ev_goto 30 dX11_countInSymbolicPower_65 (by decide) ?_
                rw [b01_t ⟨by omega, show k + 1 ≤ so n N v by omega⟩] at q
                exact q h2 (by omega) (i1.tr i2) c2
      refine ev_start 3 (lv := [some (.ref 0), some (.int (nI (k + 1))), some (.int (nI t)), none, none, none]) rfl (by decide) (Nat.le_of_ble_eq_true rfl) ?_
      refine ev_iload_n dX11_countInSymbolicPower_0 rfl ?_
      refine ev_callS (cl_isPowerC) ok_X11_isPower ml_X11_188 rfl rfl (Nat.le_of_ble_eq_true rfl) dX11_countInSymbolicPower_1 (kI ?_)
      refine ev_if_eqN 14 dX11_countInSymbolicPower_4 (by decide) (by omega) (fun c4 => ?_) (fun c4 => ?_)
      · omega
      · refine ev_iload_n dX11_countInSymbolicPower_7 rfl ?_
        refine ev_callS (cl_isDegree) ok_X11_isDegree ml_X11_204 rfl rfl (Nat.le_of_ble_eq_true rfl) dX11_countInSymbolicPower_8 (kI ?_)
        refine ev_if_neN 16 dX11_countInSymbolicPower_11 (by decide) (by omega) (fun c11 => ?_) (fun c11 => ?_)
        · refine ev_iconst (nI 0) dX11_countInSymbolicPower_16 rfl ?_
          refine ev_ist3 dX11_countInSymbolicPower_17 (by decide) rfl ?_
          refine ev_aload_n dX11_countInSymbolicPower_18 rfl ?_
          refine ev_getR fl_X11_14 rfl rfl dX11_countInSymbolicPower_19 ?_
          refine ev_callV (cl_greatestCode g hn) ok_X1_greatestCode ml_X11_137 rfl rfl rfl rfl (Nat.le_of_ble_eq_true rfl) dX11_countInSymbolicPower_22 (kI ?_)
          refine ev_ist4 dX11_countInSymbolicPower_25 (by decide) rfl ?_
          refine ev_iconst (nI 0) dX11_countInSymbolicPower_27 rfl ?_
          refine ev_ist5 dX11_countInSymbolicPower_28 (by decide) rfl ?_
          exact loop (4 ^ n) 0 h (by omega) iq.rf c
        · omega
    · have q2 := b01_f hy
      rw [aRg_f hy]
      refine ev_start 3 (lv := [some (.ref 0), some (.int (nI (k + 1))), some (.int y), none, none, none]) rfl (by decide) (Nat.le_of_ble_eq_true rfl) ?_
      refine ev_iload_n dX11_countInSymbolicPower_0 rfl ?_
      refine ev_callS (cl_isPowerC) ok_X11_isPower ml_X11_188 rfl rfl (Nat.le_of_ble_eq_true rfl) dX11_countInSymbolicPower_1 (kI ?_)
      refine ev_if_eqN 14 dX11_countInSymbolicPower_4 (by decide) (by omega) (fun c4 => ?_) (fun c4 => ?_)
      · omega
      · refine ev_iload_n dX11_countInSymbolicPower_7 rfl ?_
        refine ev_callS (cl_isDegree) ok_X11_isDegree ml_X11_204 rfl rfl (Nat.le_of_ble_eq_true rfl) dX11_countInSymbolicPower_8 (kI ?_)
        refine ev_if_neN 16 dX11_countInSymbolicPower_11 (by decide) (by omega) (fun c11 => ?_) (fun c11 => ?_)
        · omega
        · refine ev_iconst (-1) dX11_countInSymbolicPower_14 rfl ?_
          refine ev_iret dX11_countInSymbolicPower_15 rfl ?_
          exact ⟨rfl, iq.rf, c⟩
  · have q1 := b01_f hx
    rw [aRg_f hx]
    refine ev_start 3 (lv := [some (.ref 0), some (.int x), some (.int y), none, none, none]) rfl (by decide) (Nat.le_of_ble_eq_true rfl) ?_
    refine ev_iload_n dX11_countInSymbolicPower_0 rfl ?_
    refine ev_callS (cl_isPowerC) ok_X11_isPower ml_X11_188 rfl rfl (Nat.le_of_ble_eq_true rfl) dX11_countInSymbolicPower_1 (kI ?_)
    refine ev_if_eqN 14 dX11_countInSymbolicPower_4 (by decide) (by omega) (fun c4 => ?_) (fun c4 => ?_)
    · refine ev_iconst (-1) dX11_countInSymbolicPower_14 rfl ?_
      refine ev_iret dX11_countInSymbolicPower_15 rfl ?_
      exact ⟨rfl, iq.rf, c⟩
    · omega
theorem cl_countIn {n N b : Nat} {x y : Int32} (g : gM h n N) (ok : gOK n N) (c : cacheM h n N) (hb : b < 2) : Cl G (d + 3) M_X12_countIn [.ref 67, .int x, .int y, .int (nI b)] h (fun rv h' => rv = some (.int (aCnt n N b x y)) ∧ ms h h' ∧ cacheM h' n N) := by
  have hn := ok.2.1
  have h4 := four_n hn
  unfold aCnt
  by_cases hx : rg x 1 3
  · have q1 := b01_t hx
    obtain ⟨k, hk, rfl⟩ := rg_p hx
    rw [aRg_p hk]
    by_cases hy : rg y 0 21
    · have q2 := b01_t hy
      obtain ⟨t, t1, t2, rfl⟩ := hy
      rw [aRg_t t1 t2 (by decide)]
      have loop : ∀ (h1 : MH), gM h1 n N → tM h1 n N → ∀ (j v : Nat), v + j = 4 ^ n → Ev G (d + 3) M_X12_countIn 31 [some (.ref 67), some (.int (nI (k + 1))), some (.int (nI t)), some (.int (nI b)), some (.int (nI (cnt n N b (k + 1) t v))), some (.int (nI v))] [] h1 (qI (nI (cnt n N b (k + 1) t (4 ^ n))) h1) := by
        intro h1 g1 t1 j
        induction j with
        | zero =>
          intro v hv
          obtain rfl : v = 4 ^ n := by omega
          refine ev_iload dX12_countIn_31 rfl ?_
          refine ev_aload_n dX12_countIn_33 rfl ?_
          refine ev_callV (cl_codeCount g1 hn) ok_X12_codeCount ml_X12_125 rfl rfl rfl rfl (Nat.le_of_ble_eq_true rfl) dX12_countIn_34 (kI ?_)
          refine ev_icmp_geN 76 dX12_countIn_37 (by decide) (by omega) (by omega) (fun c37 => ?_) (fun c37 => ?_)
          · refine ev_iload dX12_countIn_76 rfl ?_
            refine ev_iret dX12_countIn_78 rfl ?_
            exact ⟨by with_reducible rfl, rfl⟩
          · omega
        | succ j ih =>
          intro v hv
          have dl := deg_le (m := v)
          have cl := cnt_le (n := n) (N := N) (b := b) (s := k + 1) (t := t) (k := v)
          have y0 := b01_lt (k + 1 ≤ vl n N b v)
          have q := ih (v + 1)
          rw [cnt_s] at q
          refine ev_iload dX12_countIn_31 rfl ?_
          refine ev_aload_n dX12_countIn_33 rfl ?_
          refine ev_callV (cl_codeCount g1 hn) ok_X12_codeCount ml_X12_125 rfl rfl rfl rfl (Nat.le_of_ble_eq_true rfl) dX12_countIn_34 (kI ?_)
          refine ev_icmp_geN 76 dX12_countIn_37 (by decide) (by omega) (by omega) (fun c37 => ?_) (fun c37 => ?_)
          · omega
          · refine ev_iload dX12_countIn_40 rfl ?_
            refine ev_iload dX12_countIn_42 rfl ?_
            refine ev_callS (cl_degreeOfM (by omega)) ok_X12_degreeOf ml_X12_163 rfl rfl (Nat.le_of_ble_eq_true rfl) dX12_countIn_44 (kI ?_)
            refine ev_iload_n dX12_countIn_47 rfl ?_
            refine ev_icmp_neN 66 dX12_countIn_48 (by decide) (by omega) (by omega) (fun c48 => ?_) (fun c48 => ?_)
            · refine ev_iconst (nI 0) dX12_countIn_66 rfl ?_
              refine ev_iaddN dX12_countIn_67 ?_
              refine ev_ist4 dX12_countIn_68 (by decide) rfl ?_
              refine ev_inc5N dX12_countIn_70 (by decide) rfl ?_
              refine ev_goto 31 dX12_countIn_73 (by decide) ?_
              rw [b01_f (fun z => c48 z.1)] at q
              exact q (by omega)
            · refine ev_aload_n dX12_countIn_51 rfl ?_
              refine ev_iload dX12_countIn_52 rfl ?_
              refine ev_iload_n dX12_countIn_54 rfl ?_
              refine ev_iload_n dX12_countIn_55 rfl ?_
              refine ev_callV (cl_isIn ok t1 (by omega) (by omega) hb) ok_X12_isIn ml_X12_173 rfl rfl rfl rfl (Nat.le_of_ble_eq_true rfl) dX12_countIn_56 (kI ?_)
              refine ev_if_eqN 66 dX12_countIn_59 (by decide) (by omega) (fun c59 => ?_) (fun c59 => ?_)
              · refine ev_iconst (nI 0) dX12_countIn_66 rfl ?_
                refine ev_iaddN dX12_countIn_67 ?_
                refine ev_ist4 dX12_countIn_68 (by decide) rfl ?_
                refine ev_inc5N dX12_countIn_70 (by decide) rfl ?_
                refine ev_goto 31 dX12_countIn_73 (by decide) ?_
                rw [b01_f (fun z => b01_0.mp c59 z.2)] at q
                exact q (by omega)
              · refine ev_iconst (nI 1) dX12_countIn_62 rfl ?_
                refine ev_goto 67 dX12_countIn_63 (by decide) ?_
                refine ev_iaddN dX12_countIn_67 ?_
                refine ev_ist4 dX12_countIn_68 (by decide) rfl ?_
                refine ev_inc5N dX12_countIn_70 (by decide) rfl ?_
                refine ev_goto 31 dX12_countIn_73 (by decide) ?_
                rw [b01_t ⟨by omega, b01_1.mp (show b01 (k + 1 ≤ vl n N b v) = 1 by omega)⟩] at q
                exact q (by omega)
      refine ev_start 2 (lv := [some (.ref 67), some (.int (nI (k + 1))), some (.int (nI t)), some (.int (nI b)), none, none]) rfl (by decide) (Nat.le_of_ble_eq_true rfl) ?_
      refine ev_iload_n dX12_countIn_0 rfl ?_
      refine ev_callS (cl_isPowerM) ok_X12_isPower ml_X12_185 rfl rfl (Nat.le_of_ble_eq_true rfl) dX12_countIn_1 (kI ?_)
      refine ev_if_eqN 19 dX12_countIn_4 (by decide) (by omega) (fun c4 => ?_) (fun c4 => ?_)
      · omega
      · refine ev_iload_n dX12_countIn_7 rfl ?_
        refine ev_i2l dX12_countIn_8 rfl ?_
        refine ev_lconst (lN 0) dX12_countIn_9 rfl ?_
        refine ev_ldc2 (lN 21) dX12_countIn_10 kl_X12_200 ?_
        refine ev_callS (cl_btw (a := 0) (b := 21) rfl rfl (by decide) (by decide)) ok_X12_isBetween ml_X12_79 rfl rfl (Nat.le_of_ble_eq_true rfl) dX12_countIn_13 (kI ?_)
        refine ev_if_neN 21 dX12_countIn_16 (by decide) (by omega) (fun c16 => ?_) (fun c16 => ?_)
        · refine ev_aload_n dX12_countIn_21 rfl ?_
          refine ev_callV (cl_update g ok c) ok_X12_update ml_X12_144 rfl rfl rfl rfl (Nat.le_of_ble_eq_true rfl) dX12_countIn_22 ?_
          rintro rv h1 ⟨rfl, m1, t1⟩
          refine ev_iconst (nI 0) dX12_countIn_25 rfl ?_
          refine ev_ist4 dX12_countIn_26 (by decide) rfl ?_
          refine ev_iconst (nI 0) dX12_countIn_28 rfl ?_
          refine ev_ist5 dX12_countIn_29 (by decide) rfl ?_
          refine ev_mono ?_ (loop h1 (gM_mq g m1) t1 (4 ^ n) 0 (by omega))
          rintro rv h2 ⟨rfl, rfl⟩
          exact ⟨rfl, ms_mq m1, Or.inr t1⟩
        · omega
    · have q2 := b01_f hy
      rw [aRg_f hy]
      refine ev_start 2 (lv := [some (.ref 67), some (.int (nI (k + 1))), some (.int y), some (.int (nI b)), none, none]) rfl (by decide) (Nat.le_of_ble_eq_true rfl) ?_
      refine ev_iload_n dX12_countIn_0 rfl ?_
      refine ev_callS (cl_isPowerM) ok_X12_isPower ml_X12_185 rfl rfl (Nat.le_of_ble_eq_true rfl) dX12_countIn_1 (kI ?_)
      refine ev_if_eqN 19 dX12_countIn_4 (by decide) (by omega) (fun c4 => ?_) (fun c4 => ?_)
      · omega
      · refine ev_iload_n dX12_countIn_7 rfl ?_
        refine ev_i2l dX12_countIn_8 rfl ?_
        refine ev_lconst (lN 0) dX12_countIn_9 rfl ?_
        refine ev_ldc2 (lN 21) dX12_countIn_10 kl_X12_200 ?_
        refine ev_callS (cl_btw (a := 0) (b := 21) rfl rfl (by decide) (by decide)) ok_X12_isBetween ml_X12_79 rfl rfl (Nat.le_of_ble_eq_true rfl) dX12_countIn_13 (kI ?_)
        refine ev_if_neN 21 dX12_countIn_16 (by decide) (by omega) (fun c16 => ?_) (fun c16 => ?_)
        · omega
        · refine ev_iconst (-1) dX12_countIn_19 rfl ?_
          refine ev_iret dX12_countIn_20 rfl ?_
          exact ⟨rfl, mod.rf, c⟩
  · have q1 := b01_f hx
    rw [aRg_f hx]
    refine ev_start 2 (lv := [some (.ref 67), some (.int x), some (.int y), some (.int (nI b)), none, none]) rfl (by decide) (Nat.le_of_ble_eq_true rfl) ?_
    refine ev_iload_n dX12_countIn_0 rfl ?_
    refine ev_callS (cl_isPowerM) ok_X12_isPower ml_X12_185 rfl rfl (Nat.le_of_ble_eq_true rfl) dX12_countIn_1 (kI ?_)
    refine ev_if_eqN 19 dX12_countIn_4 (by decide) (by omega) (fun c4 => ?_) (fun c4 => ?_)
    · refine ev_iconst (-1) dX12_countIn_19 rfl ?_
      refine ev_iret dX12_countIn_20 rfl ?_
      exact ⟨rfl, mod.rf, c⟩
    · omega
theorem cl_countInPowerM {n N : Nat} {x y : Int32} (g : gM h n N) (ok : gOK n N) (c : cacheM h n N) : Cl G (d + 4) M_X12_countInPower [.ref 67, .int x, .int y] h (fun rv h' => rv = some (.int (aCnt n N 0 x y)) ∧ ms h h' ∧ cacheM h' n N) := by
  refine ev_start 0 (lv := [some (.ref 67), some (.int x), some (.int y)]) rfl (by decide) (Nat.le_of_ble_eq_true rfl) ?_
  refine ev_aload_n dX12_countInPower_0 rfl ?_
  refine ev_iload_n dX12_countInPower_1 rfl ?_
  refine ev_iload_n dX12_countInPower_2 rfl ?_
  refine ev_iconst (nI 0) dX12_countInPower_3 rfl ?_
  refine ev_callV (cl_countIn g ok c (by decide)) ok_X12_countIn ml_X12_202 rfl rfl rfl rfl (Nat.le_of_ble_eq_true rfl) dX12_countInPower_4 ?_
  rintro rv h1 ⟨rfl, m1, t1⟩
  refine ev_iret dX12_countInPower_7 rfl ?_
  exact ⟨rfl, m1, t1⟩
theorem cl_countInSymbolicPowerM {n N : Nat} {x y : Int32} (g : gM h n N) (ok : gOK n N) (c : cacheM h n N) : Cl G (d + 4) M_X12_countInSymbolicPower [.ref 67, .int x, .int y] h (fun rv h' => rv = some (.int (aCnt n N 1 x y)) ∧ ms h h' ∧ cacheM h' n N) := by
  refine ev_start 0 (lv := [some (.ref 67), some (.int x), some (.int y)]) rfl (by decide) (Nat.le_of_ble_eq_true rfl) ?_
  refine ev_aload_n dX12_countInSymbolicPower_0 rfl ?_
  refine ev_iload_n dX12_countInSymbolicPower_1 rfl ?_
  refine ev_iload_n dX12_countInSymbolicPower_2 rfl ?_
  refine ev_iconst (nI 1) dX12_countInSymbolicPower_3 rfl ?_
  refine ev_callV (cl_countIn g ok c (by decide)) ok_X12_countIn ml_X12_202 rfl rfl rfl rfl (Nat.le_of_ble_eq_true rfl) dX12_countInSymbolicPower_4 ?_
  rintro rv h1 ⟨rfl, m1, t1⟩
  refine ev_iret dX12_countInSymbolicPower_7 rfl ?_
  exact ⟨rfl, m1, t1⟩
end Q6
