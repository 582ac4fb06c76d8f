section LIST2
variable {G : MG} {d : Nat} {h : MH}
/-- a question that also writes the list -/
def iql (n N : Nat) (h h' : MH) : Prop := same (fun k => k < 4 ∨ (25 < k ∧ k < 40) ∨ 45 < k) h h' ∧ ∀ ko, kO h n N ko → ∃ ko', ko ≤ ko' ∧ kO h' n N ko'
def msl (h h' : MH) : Prop := mod (fun k => ¬ scrP k ∧ k ≠ 78) (fun j => ¬ scrF j ∧ j ≠ 18) h h'
theorem iql_iq {n N : Nat} {h h' : MH} (q : iq n N h h') : iql n N h h' := ⟨q.1.mono (fun k hk => by omega), q.2⟩
theorem msl_ms {h h' : MH} (q : ms h h') : msl h h' := q.mono (fun k hk => hk.1) (fun j hj => hj.1)
noncomputable def fiA (b n N : Nat) (x : Int32) : Int32 := aRg x 1 3 (fun s => if 24 < (gL n N b s).length then -3 else nI (gL n N b s).length)
noncomputable def fiL (b n N : Nat) (L : List Nat) (x : Int32) : List Nat := if b01 (rg x 1 3) = 0 then L else if 24 < (gL n N b x.toNatClampNeg).length then L else gL n N b x.toNatClampNeg
theorem gL_mem {n N b s i : Nat} (ok : gOK n N) (hi : i < (gL n N b s).length) : (gL n N b s).getD i 0 < 16384 := by
  have h4 := four_n ok.2.1
  have m : (gL n N b s).getD i 0 ∈ gL n N b s := by
    rw [List.getD_eq_getElem?_getD, List.getElem?_eq_getElem hi]; exact List.getElem_mem hi
  have := ((selD_mem (4 ^ n)).mp m).1
  omega
theorem fiL_ok {b n N : Nat} {L : List Nat} {x : Int32} (ok : gOK n N) (o : okL L) : okL (fiL b n N L x) := by
  unfold fiL
  by_cases c : b01 (rg x 1 3) = 0
  · rw [if_pos c]; exact o
  · rw [if_neg c]
    by_cases e : 24 < (gL n N b x.toNatClampNeg).length
    · rw [if_pos e]; exact o
    · rw [if_neg e]; exact ⟨by omega, fun i hi => gL_mem ok hi⟩
theorem cl_fillList {p cap : Nat} {L K : List Nat} (hr : isRow p cap) (hp40 : p < 40) (hp39 : p ≠ 39) (rk : rowIs h p K) (hk : K.length ≤ cap) (r : rowIs h 40 L) : Cl G (d + 2) M_X11_fillList [.ref 0, .ref p] h (fun rv h' => rv = some (.int (if 24 < K.length then -3 else nI K.length)) ∧ same (fun k => k < 40 ∨ 45 < k) h h' ∧ rowIs h' 40 (if 24 < K.length then L else K)) := by
  obtain ⟨hp, ha, hcap⟩ := hr
  by_cases e : 24 < K.length
  · rw [if_pos e, if_pos e]
    refine ev_start 0 (lv := [some (.ref 0), some (.ref p)]) rfl (by decide) (Nat.le_of_ble_eq_true rfl) ?_
    refine ev_aload_n dX11_fillList_0 rfl ?_
    refine ev_getIv (rk.1) fl_X11_148 hp rfl dX11_fillList_1 ?_
    refine ev_bipush (nI 24) dX11_fillList_4 rfl ?_
    refine ev_icmp_leN 12 dX11_fillList_6 (by decide) (by omega) (by omega) (fun c6 => ?_) (fun c6 => ?_)
    · omega
    · refine ev_bipush (-3) dX11_fillList_9 rfl ?_
      refine ev_iret dX11_fillList_11 rfl ?_
      exact ⟨rfl, same.rf, r⟩
  · rw [if_neg e, if_neg e]
    have e2 : (rowCopy h 40 p K.length).1 40 1 = nI K.length := (rowIs_copy rk).1
    refine ev_start 0 (lv := [some (.ref 0), some (.ref p)]) rfl (by decide) (Nat.le_of_ble_eq_true rfl) ?_
    refine ev_aload_n dX11_fillList_0 rfl ?_
    refine ev_getIv (rk.1) fl_X11_148 hp rfl dX11_fillList_1 ?_
    refine ev_bipush (nI 24) dX11_fillList_4 rfl ?_
    refine ev_icmp_leN 12 dX11_fillList_6 (by decide) (by omega) (by omega) (fun c6 => ?_) (fun c6 => ?_)
    · refine ev_aload_n dX11_fillList_12 rfl ?_
      refine ev_getR fl_X11_53 rfl rfl dX11_fillList_13 ?_
      refine ev_getR fl_X11_253 rfl rfl dX11_fillList_16 ?_
      refine ev_aload_n dX11_fillList_19 rfl ?_
      refine ev_callV (cl_copyFrom row_40 ⟨hp, ha, hcap⟩ (by omega) (by omega) rk.1 (by omega) hk) ok_X7_copyFrom ml_X11_293 rfl rfl rfl rfl (Nat.le_of_ble_eq_true rfl) dX11_fillList_20 (kV ?_)
      refine ev_aload_n dX11_fillList_23 rfl ?_
      refine ev_getR fl_X11_53 rfl rfl dX11_fillList_24 ?_
      refine ev_getR fl_X11_253 rfl rfl dX11_fillList_27 ?_
      refine ev_getIv (e2) fl_X11_148 rfl rfl dX11_fillList_30 ?_
      refine ev_iret dX11_fillList_33 rfl ?_
      exact ⟨rfl, same_copy (by decide) (by decide), rowIs_copy rk⟩
    · omega
theorem cl_fillWithGeneratorsC {n N : Nat} {L : List Nat} {x : Int32} (g : gC h n N) (ok : gOK n N) (c : cI h n N) (r : rowIs h 40 L) : Cl G (d + 4) M_X11_fillWithGenerators [.ref 0, .int x] h (fun rv h' => rv = some (.int (fiA 0 n N x)) ∧ iql n N h h' ∧ cI h' n N ∧ rowIs h' 40 (fiL 0 n N L x)) := by
  have hn := ok.2.1
  unfold fiA fiL
  by_cases hx : rg x 1 3
  · have q1 := b01_t hx
    rw [q1, if_neg (show ¬ 1 = 0 by decide)]
    obtain ⟨k, hk, rfl⟩ := rg_p hx
    have hr := rowG hk
    obtain ⟨hp, ha, hcap⟩ := rowG hk
    rw [aRg_p hk, nI_clamp (by omega), gL_0 ok]
    have hlen := gnL_len (N := N) hn (show 1 ≤ k + 1 by omega) (by omega)
    refine ev_start 0 (lv := [some (.ref 0), some (.int (nI (k + 1)))]) rfl (by decide) (Nat.le_of_ble_eq_true rfl) ?_
    refine ev_iload_n dX11_fillWithGenerators_0 rfl ?_
    refine ev_callS (cl_isPowerC) ok_X11_isPower ml_X11_188 rfl rfl (Nat.le_of_ble_eq_true rfl) dX11_fillWithGenerators_1 (kI ?_)
    refine ev_if_eqN 22 dX11_fillWithGenerators_4 (by decide) (by omega) (fun c4 => ?_) (fun c4 => ?_)
    · omega
    · refine ev_aload_n dX11_fillWithGenerators_7 rfl ?_
      refine ev_aload_n dX11_fillWithGenerators_8 rfl ?_
      refine ev_getR fl_X11_23 rfl rfl dX11_fillWithGenerators_9 ?_
      refine ev_iload_n dX11_fillWithGenerators_12 rfl ?_
      refine ev_callV (cl_generators g ok c hk) ok_X2_generators ml_X11_191 rfl rfl rfl rfl (Nat.le_of_ble_eq_true rfl) dX11_fillWithGenerators_13 ?_
      rintro rv h1 ⟨rfl, i1, c1, kn⟩
      have rk := kn.2.1
      have r1 := rowIs_same r i1.1 (by omega) (by omega)
      refine ev_callV (cl_fillList hr (by omega) (by omega) rk hlen r1) ok_X11_fillList ml_X11_258 rfl rfl rfl rfl (Nat.le_of_ble_eq_true rfl) dX11_fillWithGenerators_16 ?_
      rintro rv h2 ⟨rfl, s2, r2⟩
      refine ev_goto 23 dX11_fillWithGenerators_19 (by decide) ?_
      refine ev_iret dX11_fillWithGenerators_23 rfl ?_
      exact ⟨rfl, ⟨(i1.1.mono (fun k hk => by omega)).tr (s2.mono (fun k hk => by omega)), fun ko q => by
      obtain ⟨ko', a1, a2⟩ := i1.2 ko q
      exact ⟨ko', a1, a2.1, by rw [(s2 4 (by omega)).1]; exact a2.2.1, fun j hj => by rw [(s2 5 (by omega)).1]; exact a2.2.2 j hj⟩⟩, cI_same c1 (fun k h1 h2 => (s2 k (by omega)).1), r2⟩
  · have q1 := b01_f hx
    rw [q1, if_pos (show 0 = 0 from rfl), aRg_f hx]
    refine ev_start 0 (lv := [some (.ref 0), some (.int x)]) rfl (by decide) (Nat.le_of_ble_eq_true rfl) ?_
    refine ev_iload_n dX11_fillWithGenerators_0 rfl ?_
    refine ev_callS (cl_isPowerC) ok_X11_isPower ml_X11_188 rfl rfl (Nat.le_of_ble_eq_true rfl) dX11_fillWithGenerators_1 (kI ?_)
    refine ev_if_eqN 22 dX11_fillWithGenerators_4 (by decide) (by omega) (fun c4 => ?_) (fun c4 => ?_)
    · refine ev_iconst (-1) dX11_fillWithGenerators_22 rfl ?_
      refine ev_iret dX11_fillWithGenerators_23 rfl ?_
      exact ⟨rfl, iql_iq iq.rf, c, r⟩
    · omega
theorem cl_fillWithSymbolicGeneratorsC {n N : Nat} {L : List Nat} {x : Int32} (g : gC h n N) (ok : gOK n N) (c : cI h n N) (r : rowIs h 40 L) : Cl G (d + 4) M_X11_fillWithSymbolicGenerators [.ref 0, .int x] h (fun rv h' => rv = some (.int (fiA 1 n N x)) ∧ iql n N h h' ∧ cI h' n N ∧ rowIs h' 40 (fiL 1 n N L x)) := by
  have hn := ok.2.1
  unfold fiA fiL
  by_cases hx : rg x 1 3
  · have q1 := b01_t hx
    rw [q1, if_neg (show ¬ 1 = 0 by decide)]
    obtain ⟨k, hk, rfl⟩ := rg_p hx
    have hr := rowS hk
    obtain ⟨hp, ha, hcap⟩ := rowS hk
    rw [aRg_p hk, nI_clamp (by omega), gL_1]
    have hlen := sgL_len (N := N) (s := k + 1) ok
    refine ev_start 0 (lv := [some (.ref 0), some (.int (nI (k + 1)))]) rfl (by decide) (Nat.le_of_ble_eq_true rfl) ?_
    refine ev_iload_n dX11_fillWithSymbolicGenerators_0 rfl ?_
    refine ev_callS (cl_isPowerC) ok_X11_isPower ml_X11_188 rfl rfl (Nat.le_of_ble_eq_true rfl) dX11_fillWithSymbolicGenerators_1 (kI ?_)
    refine ev_if_eqN 22 dX11_fillWithSymbolicGenerators_4 (by decide) (by omega) (fun c4 => ?_) (fun c4 => ?_)
    · omega
    · refine ev_aload_n dX11_fillWithSymbolicGenerators_7 rfl ?_
      refine ev_aload_n dX11_fillWithSymbolicGenerators_8 rfl ?_
      refine ev_getR fl_X11_23 rfl rfl dX11_fillWithSymbolicGenerators_9 ?_
      refine ev_iload_n dX11_fillWithSymbolicGenerators_12 rfl ?_
      refine ev_callV (cl_symbolicGenerators g ok c hk) ok_X2_symbolicGenerators ml_X11_194 rfl rfl rfl rfl (Nat.le_of_ble_eq_true rfl) dX11_fillWithSymbolicGenerators_13 ?_
      rintro rv h1 ⟨rfl, i1, c1, rk, -⟩
      have r1 := rowIs_same r i1.1 (by omega) (by omega)
      refine ev_callV (cl_fillList hr (by omega) (by omega) rk hlen r1) ok_X11_fillList ml_X11_258 rfl rfl rfl rfl (Nat.le_of_ble_eq_true rfl) dX11_fillWithSymbolicGenerators_16 ?_
      rintro rv h2 ⟨rfl, s2, r2⟩
      refine ev_goto 23 dX11_fillWithSymbolicGenerators_19 (by decide) ?_
      refine ev_iret dX11_fillWithSymbolicGenerators_23 rfl ?_
      exact ⟨rfl, ⟨(i1.1.mono (fun k hk => by omega)).tr (s2.mono (fun k hk => by omega)), fun ko q => by
      obtain ⟨ko', a1, a2⟩ := i1.2 ko q
      exact ⟨ko', a1, a2.1, by rw [(s2 4 (by omega)).1]; exact a2.2.1, fun j hj => by rw [(s2 5 (by omega)).1]; exact a2.2.2 j hj⟩⟩, cI_same c1 (fun k h1 h2 => (s2 k (by omega)).1), r2⟩
  · have q1 := b01_f hx
    rw [q1, if_pos (show 0 = 0 from rfl), aRg_f hx]
    refine ev_start 0 (lv := [some (.ref 0), some (.int x)]) rfl (by decide) (Nat.le_of_ble_eq_true rfl) ?_
    refine ev_iload_n dX11_fillWithSymbolicGenerators_0 rfl ?_
    refine ev_callS (cl_isPowerC) ok_X11_isPower ml_X11_188 rfl rfl (Nat.le_of_ble_eq_true rfl) dX11_fillWithSymbolicGenerators_1 (kI ?_)
    refine ev_if_eqN 22 dX11_fillWithSymbolicGenerators_4 (by decide) (by omega) (fun c4 => ?_) (fun c4 => ?_)
    · refine ev_iconst (-1) dX11_fillWithSymbolicGenerators_22 rfl ?_
      refine ev_iret dX11_fillWithSymbolicGenerators_23 rfl ?_
      exact ⟨rfl, iql_iq iq.rf, c, r⟩
    · omega
theorem cl_countG {n N b k : Nat} (g : gM h n N) (ok : gOK n N) (c : cacheM h n N) (hb : b < 2) (hk : k < 3) : Cl G (d + 4) M_X12_countGenerators [.ref 67, .int (nI (k + 1)), .int (nI b)] h (fun rv h' => rv = some (.int (nI (gL n N b (k + 1)).length)) ∧ ms h h' ∧ tM h' n N ∧ gLM h' (gL n N b (k + 1))) := by
  have q1 := b01_t (show rg (nI (k + 1)) 1 3 from ⟨k + 1, by omega, by omega, rfl⟩)
  refine ev_start 0 (lv := [some (.ref 67), some (.int (nI (k + 1))), some (.int (nI b))]) rfl (by decide) (Nat.le_of_ble_eq_true rfl) ?_
  refine ev_iload_n dX12_countGenerators_0 rfl ?_
  refine ev_callS (cl_isPowerM) ok_X12_isPower ml_X12_185 rfl rfl (Nat.le_of_ble_eq_true rfl) dX12_countGenerators_1 (kI ?_)
  refine ev_if_neN 9 dX12_countGenerators_4 (by decide) (by omega) (fun c4 => ?_) (fun c4 => ?_)
  · refine ev_aload_n dX12_countGenerators_9 rfl ?_
    refine ev_iload_n dX12_countGenerators_10 rfl ?_
    refine ev_iload_n dX12_countGenerators_11 rfl ?_
    refine ev_callV (cl_findGenerators g ok c (by omega) hb) ok_X12_findGenerators ml_X12_188 rfl rfl rfl rfl (Nat.le_of_ble_eq_true rfl) dX12_countGenerators_12 ?_
    rintro rv h1 ⟨rfl, m1, t1, l1⟩
    refine ev_aload_n dX12_countGenerators_15 rfl ?_
    refine ev_getIv (l1.1) fl_X12_177 rfl rfl dX12_countGenerators_16 ?_
    refine ev_iret dX12_countGenerators_19 rfl ?_
    exact ⟨rfl, ms_gen m1, t1, l1⟩
  · omega
theorem tM_mod {P F : Nat → Prop} {h h' : MH} {n N : Nat} (t : tM h n N) (m : mod P F h h') (h1 : P 71) (h2 : P 72) (h3 : P 73) (h4 : F 5) (h5 : F 7) : tM h' n N := by
  unfold tM cM
  rw [m.2 5 h4, m.2 7 h5, (m.1 71 (by decide) h1).1, (m.1 72 (by decide) h2).1, (m.1 73 (by decide) h3).1]
  exact t
theorem cl_fill {n N b : Nat} {L : List Nat} {x : Int32} (g : gM h n N) (ok : gOK n N) (c : cacheM h n N) (hb : b < 2) (r : lM h L) : Cl G (d + 5) M_X12_fill [.ref 67, .int x, .int (nI b)] h (fun rv h' => rv = some (.int (fiA b n N x)) ∧ msl h h' ∧ cacheM h' n N ∧ lM h' (fiL b n N L x)) := by
  have hn := ok.2.1
  unfold fiA fiL
  by_cases hx : rg x 1 3
  · have q1 := b01_t hx
    rw [q1, if_neg (show ¬ 1 = 0 by decide)]
    obtain ⟨k, hk, rfl⟩ := rg_p hx
    rw [aRg_p hk, nI_clamp (by omega)]
    have hlen := gL_len (b := b) (s := k + 1) ok
    generalize hK : gL n N b (k + 1) = K at *
    have loop : ∀ (h0 : MH), h0.1 67 18 = nI K.length → hold (h0.1 75) K → msl h h0 → tM h0 n N → K.length ≤ 24 → ∀ (j v : Nat) (f : Nat → Int32), v + j = K.length → (∀ i, i < v → f i = nI (K.getD i 0)) → Ev G (d + 5) M_X12_fill 30 [some (.ref 67), some (.int (nI (k + 1))), some (.int (nI b)), some (.int (nI K.length)), some (.int (nI v))] [] (m_putA h0 78 f) (fun rv h' => rv = some (.int (nI K.length)) ∧ msl h h' ∧ cacheM h' n N ∧ lM h' K) := by
      intro h0 e0 hG m0 t0 l24 j
      have e1 : ∀ f, (m_putA h0 78 f).1 67 18 = nI K.length := fun f => by rw [ma_k (by decide)]; exact e0
      induction j with
      | zero =>
        intro v f hv hf
        obtain rfl : v = K.length := by omega
        refine ev_iload dX12_fill_30 rfl ?_
        refine ev_aload_n dX12_fill_32 rfl ?_
        refine ev_getIv (e1 f) fl_X12_251 rfl rfl dX12_fill_33 ?_
        refine ev_icmp_geN 59 dX12_fill_36 (by decide) (by omega) (by omega) (fun c36 => ?_) (fun c36 => ?_)
        · refine ev_aload_n dX12_fill_59 rfl ?_
          refine ev_getIv (e1 f) fl_X12_251 rfl rfl dX12_fill_60 ?_
          refine ev_iret dX12_fill_63 rfl ?_
          exact ⟨rfl, m0.tr (mod_a (by simp) (by decide)), Or.inr (tM_mod t0 (mod_a (P := fun k => k ≠ 78) (F := fun _ => True) (k := 78) (f := f) (by simp) (by decide)) (by decide) (by decide) (by decide) trivial trivial), e1 f, by rw [ma_eq]; exact hf⟩
        · omega
      | succ j ih =>
        intro v f hv hf
        refine ev_iload dX12_fill_30 rfl ?_
        refine ev_aload_n dX12_fill_32 rfl ?_
        refine ev_getIv (e1 f) fl_X12_251 rfl rfl dX12_fill_33 ?_
        refine ev_icmp_geN 59 dX12_fill_36 (by decide) (by omega) (by omega) (fun c36 => ?_) (fun c36 => ?_)
        · omega
        · refine ev_aload_n dX12_fill_39 rfl ?_
          refine ev_getR fl_X12_50 rfl rfl dX12_fill_40 ?_
          refine ev_iload dX12_fill_43 rfl ?_
          refine ev_aload_n dX12_fill_45 rfl ?_
          refine ev_getR fl_X12_41 rfl rfl dX12_fill_46 ?_
          refine ev_iload dX12_fill_49 rfl ?_
          refine ev_ialdv ((show (m_putA h0 78 f).1 75 v = nI (K.getD v 0) by rw [ma_k (by decide)]; exact hG v (by omega))) rfl dX12_fill_51 (by omega) (by omega) ?_
          refine ev_iastN rfl dX12_fill_52 (by omega) (by omega) ?_
          rw [ma_set]
          refine ev_inc4N dX12_fill_53 (by decide) rfl ?_
          refine ev_goto 30 dX12_fill_56 (by decide) ?_
          exact ih (v + 1) _ (by omega) (fun i hi => by
          by_cases e : i = v
          · subst e; rw [pk_us]
          · rw [pk_un e]; exact hf i (by omega))
    by_cases e : 24 < K.length
    · rw [if_pos e, if_pos e]
      refine ev_start 2 (lv := [some (.ref 67), some (.int (nI (k + 1))), some (.int (nI b)), none, none]) rfl (by decide) (Nat.le_of_ble_eq_true rfl) ?_
      refine ev_aload_n dX12_fill_0 rfl ?_
      refine ev_iload_n dX12_fill_1 rfl ?_
      refine ev_iload_n dX12_fill_2 rfl ?_
      refine ev_callV ((by have := cl_countG (G := G) (d := d) g ok c hb hk; rw [hK] at this; exact this)) ok_X12_countGenerators ml_X12_192 rfl rfl rfl rfl (Nat.le_of_ble_eq_true rfl) dX12_fill_3 ?_
      rintro rv h1 ⟨rfl, m1, t1, l1⟩
      refine ev_ist3 dX12_fill_6 (by decide) rfl ?_
      refine ev_iload_n dX12_fill_7 rfl ?_
      refine ev_if_geN 13 dX12_fill_8 (by decide) (by omega) (fun c8 => ?_) (fun c8 => ?_)
      · refine ev_iload_n dX12_fill_13 rfl ?_
        refine ev_bipush (nI 24) dX12_fill_14 rfl ?_
        refine ev_icmp_leN 22 dX12_fill_16 (by decide) (by omega) (by omega) (fun c16 => ?_) (fun c16 => ?_)
        · omega
        · refine ev_bipush (-3) dX12_fill_19 rfl ?_
          refine ev_iret dX12_fill_21 rfl ?_
          exact ⟨rfl, msl_ms m1, Or.inr t1, by
          refine ⟨by rw [m1.2 18 (by simp [scrF])]; exact r.1, ?_⟩
          rw [(m1.1 78 (by decide) (by simp [scrP])).1]; exact r.2⟩
      · exact c8.elim
    · rw [if_neg e, if_neg e]
      refine ev_start 2 (lv := [some (.ref 67), some (.int (nI (k + 1))), some (.int (nI b)), none, none]) rfl (by decide) (Nat.le_of_ble_eq_true rfl) ?_
      refine ev_aload_n dX12_fill_0 rfl ?_
      refine ev_iload_n dX12_fill_1 rfl ?_
      refine ev_iload_n dX12_fill_2 rfl ?_
      refine ev_callV ((by have := cl_countG (G := G) (d := d) g ok c hb hk; rw [hK] at this; exact this)) ok_X12_countGenerators ml_X12_192 rfl rfl rfl rfl (Nat.le_of_ble_eq_true rfl) dX12_fill_3 ?_
      rintro rv h1 ⟨rfl, m1, t1, l1⟩
      refine ev_ist3 dX12_fill_6 (by decide) rfl ?_
      refine ev_iload_n dX12_fill_7 rfl ?_
      refine ev_if_geN 13 dX12_fill_8 (by decide) (by omega) (fun c8 => ?_) (fun c8 => ?_)
      · refine ev_iload_n dX12_fill_13 rfl ?_
        refine ev_bipush (nI 24) dX12_fill_14 rfl ?_
        refine ev_icmp_leN 22 dX12_fill_16 (by decide) (by omega) (by omega) (fun c16 => ?_) (fun c16 => ?_)
        · refine ev_aload_n dX12_fill_22 rfl ?_
          refine ev_iload_n dX12_fill_23 rfl ?_
          refine ev_putI fp_X12_251 rfl rfl rfl rfl dX12_fill_24 ?_
          refine ev_iconst (nI 0) dX12_fill_27 rfl ?_
          refine ev_ist4 dX12_fill_28 (by decide) rfl ?_
          have q := loop (m_put h1 67 18 (nI K.length)) (mp_eq _ _ _ _) (by rw [mp_k (by decide)]; exact l1.2) ((msl_ms m1).tr (mod_f (by simp))) (tM_mod t1 (mod_f (P := fun _ => True) (F := fun j => j ≠ 18) (j := 18) (v := nI K.length) (by simp)) trivial trivial trivial (by decide) (by decide)) (by omega) K.length 0 ((m_put h1 67 18 (nI K.length)).1 78) (by omega) (fun i hi => absurd hi (Nat.not_lt_zero _))
          rw [ma_self] at q
          exact q
        · omega
      · exact c8.elim
  · have q1 := b01_f hx
    rw [q1, if_pos (show 0 = 0 from rfl), aRg_f hx]
    refine ev_start 2 (lv := [some (.ref 67), some (.int x), some (.int (nI b)), none, none]) rfl (by decide) (Nat.le_of_ble_eq_true rfl) ?_
    refine ev_aload_n dX12_fill_0 rfl ?_
    refine ev_iload_n dX12_fill_1 rfl ?_
    refine ev_iload_n dX12_fill_2 rfl ?_
    refine ev_callV ((by have := cl_countGenerators (G := G) (d := d) (x := x) g ok c hb; rw [aRg_f hx] at this; exact this)) ok_X12_countGenerators ml_X12_192 rfl rfl rfl rfl (Nat.le_of_ble_eq_true rfl) dX12_fill_3 ?_
    rintro rv h1 ⟨rfl, m1, t1⟩
    refine ev_ist3 dX12_fill_6 (by decide) rfl ?_
    refine ev_iload_n dX12_fill_7 rfl ?_
    refine ev_if_ge 13 dX12_fill_8 (by decide) (fun c8 => ?_) (fun c8 => ?_)
    · exact absurd c8 (by decide)
    · refine ev_iload_n dX12_fill_11 rfl ?_
      refine ev_iret dX12_fill_12 rfl ?_
      exact ⟨rfl, msl_ms m1, t1, by
      refine ⟨by rw [m1.2 18 (by simp [scrF])]; exact r.1, ?_⟩
      rw [(m1.1 78 (by decide) (by simp [scrP])).1]; exact r.2⟩
theorem cl_fillWithGeneratorsM {n N : Nat} {L : List Nat} {x : Int32} (g : gM h n N) (ok : gOK n N) (c : cacheM h n N) (r : lM h L) : Cl G (d + 6) M_X12_fillWithGenerators [.ref 67, .int x] h (fun rv h' => rv = some (.int (fiA 0 n N x)) ∧ msl h h' ∧ cacheM h' n N ∧ lM h' (fiL 0 n N L x)) := by
  refine ev_start 0 (lv := [some (.ref 67), some (.int x)]) rfl (by decide) (Nat.le_of_ble_eq_true rfl) ?_
  refine ev_aload_n dX12_fillWithGenerators_0 rfl ?_
  refine ev_iload_n dX12_fillWithGenerators_1 rfl ?_
  refine ev_iconst (nI 0) dX12_fillWithGenerators_2 rfl ?_
  refine ev_callV (cl_fill g ok c (by decide) r) ok_X12_fill ml_X12_254 rfl rfl rfl rfl (Nat.le_of_ble_eq_true rfl) dX12_fillWithGenerators_3 ?_
  rintro rv h1 ⟨rfl, m1, t1, l1⟩
  refine ev_iret dX12_fillWithGenerators_6 rfl ?_
  exact ⟨rfl, m1, t1, l1⟩
theorem cl_fillWithSymbolicGeneratorsM {n N : Nat} {L : List Nat} {x : Int32} (g : gM h n N) (ok : gOK n N) (c : cacheM h n N) (r : lM h L) : Cl G (d + 6) M_X12_fillWithSymbolicGenerators [.ref 67, .int x] h (fun rv h' => rv = some (.int (fiA 1 n N x)) ∧ msl h h' ∧ cacheM h' n N ∧ lM h' (fiL 1 n N L x)) := by
  refine ev_start 0 (lv := [some (.ref 67), some (.int x)]) rfl (by decide) (Nat.le_of_ble_eq_true rfl) ?_
  refine ev_aload_n dX12_fillWithSymbolicGenerators_0 rfl ?_
  refine ev_iload_n dX12_fillWithSymbolicGenerators_1 rfl ?_
  refine ev_iconst (nI 1) dX12_fillWithSymbolicGenerators_2 rfl ?_
  refine ev_callV (cl_fill g ok c (by decide) r) ok_X12_fill ml_X12_254 rfl rfl rfl rfl (Nat.le_of_ble_eq_true rfl) dX12_fillWithSymbolicGenerators_3 ?_
  rintro rv h1 ⟨rfl, m1, t1, l1⟩
  refine ev_iret dX12_fillWithSymbolicGenerators_6 rfl ?_
  exact ⟨rfl, m1, t1, l1⟩
end LIST2
