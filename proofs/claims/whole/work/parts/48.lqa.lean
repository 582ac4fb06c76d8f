section LQA
variable {G : MG} {d : Nat} {h : MH}
/-- the frame of a query of the quotients -/
def lqf (n N : Nat) (h h' : MH) : Prop := same (fun k => k < 4 ∨ 31 < k) h h' ∧ cI h' n N ∧ lqC h' n N
noncomputable def ordL (n N s : Nat) (S : List Nat) : List Nat := srt (gnL n N s) S
/-- the answer: bad argument, none, or f of the sorted list and the position -/
noncomputable def aOrd (n N : Nat) (x y z : Int32) (f : List Nat → Nat → Int32) : Int32 :=
  @ite _ (z < 0) (Classical.propDecidable _) (-1) (aRg x 1 3 (fun s => match rdO n y with
    | none => -1
    | some S => @ite _ (inR z (ordL n N s S).length) (Classical.propDecidable _) (f (ordL n N s S) z.toNatClampNeg) (-2)))
theorem aOrd_neg {n N : Nat} {x y z : Int32} {f : List Nat → Nat → Int32} (hz : z < 0) : aOrd n N x y z f = -1 := if_pos hz
theorem aOrd_p {n N : Nat} {x y z : Int32} {f : List Nat → Nat → Int32} (hx : ¬ rg x 1 3) : aOrd n N x y z f = -1 := by
  unfold aOrd; split
  · rfl
  · exact aRg_f hx
theorem aOrd_o {n N : Nat} {x y z : Int32} {f : List Nat → Nat → Int32} (hy : rdO n y = none) : aOrd n N x y z f = -1 := by
  unfold aOrd; split
  · rfl
  · rw [hy]
    by_cases hx : rg x 1 3
    · obtain ⟨k, hk, rfl⟩ := rg_p hx
      exact aRg_p hk
    · exact aRg_f hx
theorem aOrd_t {n N k : Nat} {y z : Int32} {S : List Nat} {f : List Nat → Nat → Int32} (hk : k < 3) (hz : ¬ z < 0) (hy : rdO n y = some S) : aOrd n N (nI (k + 1)) y z f = @ite _ (inR z (ordL n N (k + 1) S).length) (Classical.propDecidable _) (f (ordL n N (k + 1) S) z.toNatClampNeg) (-2) := by
  unfold aOrd; rw [if_neg hz, aRg_p hk, hy]
/-- what the error's method says -/
def erP (n N : Nat) (x y z : Int32) (r : Int32) (R : Nat → List Nat → Prop) : Prop :=
  ((z < 0 ∨ ¬ rg x 1 3 ∨ rdO n y = none) ∧ r = -1) ∨ ∃ k S, k < 3 ∧ x = nI (k + 1) ∧ rdO n y = some S ∧ ¬ z < 0 ∧ R (k + 1) S ∧ ((inR z (ordL n N (k + 1) S).length ∧ r = nI 0) ∨ (¬ inR z (ordL n N (k + 1) S).length ∧ r = -2))
theorem ordL_len {n N k : Nat} {S : List Nat} (ok : gOK n N) (hk : k < 3) : (ordL n N (k + 1) S).length ≤ 728 := by
  unfold ordL; rw [srt_len]; exact gnL_len ok.2.1 (by omega) (by omega)
theorem ordL_b {n N s x : Nat} {S : List Nat} (ok : gOK n N) (hx : x ∈ ordL n N s S) : x < 16384 := by
  have := ((selD_mem _).mp ((srt_mem S).mp hx)).1
  have := four_n ok.2.1
  omega
theorem cl_stepError {n N : Nat} {x y z : Int32} (gc : gC h n N) (ok : gOK n N) (c : cI h n N) (lq : lqC h n N) : Cl G (d + 5) M_X11_stepError [.ref 0, .int x, .int y, .int z] h (fun rv h' => ∃ r, rv = some (.int r) ∧ lqf n N h h' ∧ erP n N x y z r (rdy h' n N)) := by
  by_cases hx : rg x 1 3
  · have q1 := b01_t hx
    obtain ⟨k, hk, rfl⟩ := rg_p hx
    have y1 := b01_lt (rdO n y ≠ none)
    refine ev_start 0 (lv := [some (.ref 0), some (.int (nI (k + 1))), some (.int y), some (.int z)]) rfl (by decide) (Nat.le_of_ble_eq_true rfl) ?_
    refine ev_iload_n dX11_stepError_0 rfl ?_
    refine ev_callS (cl_isPowerC) ok_X11_isPower ml_X11_188 rfl rfl (Nat.le_of_ble_eq_true rfl) dX11_stepError_1 (kI ?_)
    refine ev_if_eqN 23 dX11_stepError_4 (by decide) (by omega) (fun c4 => ?_) (fun c4 => ?_)
    · omega
    · refine ev_iload_n dX11_stepError_7 rfl ?_
      refine ev_if_lt 23 dX11_stepError_8 (by decide) (fun c8 => ?_) (fun c8 => ?_)
      · refine ev_iconst (-1) dX11_stepError_23 rfl ?_
        refine ev_iret dX11_stepError_24 rfl ?_
        exact ⟨_, rfl, ⟨same.rf, c, lq⟩, Or.inl ⟨Or.inl c8, rfl⟩⟩
      · refine ev_aload_n dX11_stepError_11 rfl ?_
        refine ev_getR fl_X11_32 rfl rfl dX11_stepError_12 ?_
        refine ev_iload_n dX11_stepError_15 rfl ?_
        refine ev_iload_n dX11_stepError_16 rfl ?_
        refine ev_callV (cl_prepare gc ok c lq hk) ok_X4_prepare ml_X11_228 rfl rfl rfl rfl (Nat.le_of_ble_eq_true rfl) dX11_stepError_17 ?_
        rintro rv h1 ⟨rfl, s1, c1, l1, r1⟩
        refine ev_if_neN 25 dX11_stepError_20 (by decide) (by omega) (fun c20 => ?_) (fun c20 => ?_)
        · obtain ⟨S, hS⟩ := Option.ne_none_iff_exists'.mp (b01_1.mp (show b01 (rdO n y ≠ none) = 1 by omega))
          have rr := r1 S hS
          have ll := ordL_len (S := S) ok hk
          refine ev_iload_n dX11_stepError_25 rfl ?_
          refine ev_aload_n dX11_stepError_26 rfl ?_
          refine ev_getR fl_X11_32 rfl rfl dX11_stepError_27 ?_
          refine ev_getR fl_X11_211 rfl rfl dX11_stepError_30 ?_
          refine ev_getIv (rr.2.2.2.1.1) fl_X11_148 rfl rfl dX11_stepError_33 ?_
          refine ev_icmp_ge 43 dX11_stepError_36 (by decide) (fun c36 => ?_) (fun c36 => ?_)
          · refine ev_bipush (-2) dX11_stepError_43 rfl ?_
            refine ev_iret dX11_stepError_45 rfl ?_
            exact ⟨_, rfl, ⟨s1, c1, l1⟩, Or.inr ⟨k, S, hk, rfl, hS, c8, rr, Or.inr ⟨inR_ge (by omega) c36, rfl⟩⟩⟩
          · refine ev_iconst (nI 0) dX11_stepError_39 rfl ?_
            refine ev_goto 45 dX11_stepError_40 (by decide) ?_
            refine ev_iret dX11_stepError_45 rfl ?_
            exact ⟨_, rfl, ⟨s1, c1, l1⟩, Or.inr ⟨k, S, hk, rfl, hS, c8, rr, Or.inl ⟨inR_of (by omega) c8 c36, rfl⟩⟩⟩
        · refine ev_iconst (-1) dX11_stepError_23 rfl ?_
          refine ev_iret dX11_stepError_24 rfl ?_
          exact ⟨_, rfl, ⟨s1, c1, l1⟩, Or.inl ⟨Or.inr (Or.inr (Classical.not_not.mp (b01_0.mp (show b01 (rdO n y ≠ none) = 0 by omega)))), rfl⟩⟩
  · have q1 := b01_f hx
    refine ev_start 0 (lv := [some (.ref 0), some (.int x), some (.int y), some (.int z)]) rfl (by decide) (Nat.le_of_ble_eq_true rfl) ?_
    refine ev_iload_n dX11_stepError_0 rfl ?_
    refine ev_callS (cl_isPowerC) ok_X11_isPower ml_X11_188 rfl rfl (Nat.le_of_ble_eq_true rfl) dX11_stepError_1 (kI ?_)
    refine ev_if_eqN 23 dX11_stepError_4 (by decide) (by omega) (fun c4 => ?_) (fun c4 => ?_)
    · refine ev_iconst (-1) dX11_stepError_23 rfl ?_
      refine ev_iret dX11_stepError_24 rfl ?_
      exact ⟨_, rfl, ⟨same.rf, c, lq⟩, Or.inl ⟨Or.inr (Or.inl hx), rfl⟩⟩
    · omega
theorem erP_bad {n N : Nat} {x y z r : Int32} {R : Nat → List Nat → Prop} {f : List Nat → Nat → Int32} (e : erP n N x y z r R) (hr : ¬ r = 0) : aOrd n N x y z f = r := by
  rcases e with ⟨q, rfl⟩ | ⟨k, S, hk, rfl, hS, hz, _, ⟨_, rfl⟩ | ⟨q, rfl⟩⟩
  · rcases q with q | q | q
    · exact aOrd_neg q
    · exact aOrd_p q
    · exact aOrd_o q
  · exact absurd rfl hr
  · rw [aOrd_t hk hz hS]; exact if_neg q
theorem erP_ok {n N : Nat} {x y z r : Int32} {R : Nat → List Nat → Prop} (e : erP n N x y z r R) (hr : r = 0) : ∃ k S j, k < 3 ∧ x = nI (k + 1) ∧ rdO n y = some S ∧ R (k + 1) S ∧ j < (ordL n N (k + 1) S).length ∧ z = nI j := by
  rcases e with ⟨_, rfl⟩ | ⟨k, S, hk, rfl, hS, hz, hR, ⟨⟨j, hj, rfl⟩, _⟩ | ⟨_, rfl⟩⟩
  · exact absurd hr (by decide)
  · exact ⟨k, S, j, hk, rfl, hS, hR, hj, rfl⟩
  · exact absurd hr (by decide)
theorem aOrd_ok {n N k j : Nat} {y : Int32} {S : List Nat} {f : List Nat → Nat → Int32} (ok : gOK n N) (hk : k < 3) (hy : rdO n y = some S) (hj : j < (ordL n N (k + 1) S).length) : aOrd n N (nI (k + 1)) y (nI j) f = f (ordL n N (k + 1) S) j := by
  have ll := ordL_len (S := S) ok hk
  rw [aOrd_t hk (nI_pos (by omega)) hy, if_pos ⟨j, hj, rfl⟩, nI_clamp (by omega)]
theorem gC_s {h h' : MH} {n N : Nat} (g : gC h n N) (s : same (fun k => k < 4 ∨ 31 < k) h h') : gC h' n N := ⟨by rw [(s 1 (by decide)).1]; exact g.1, by rw [(s 1 (by decide)).2]; exact g.2⟩
theorem cl_orderedGeneratorC {n N : Nat} {x y z : Int32} (gc : gC h n N) (ok : gOK n N) (c : cI h n N) (lq : lqC h n N) : Cl G (d + 6) M_X11_orderedGenerator [.ref 0, .int x, .int y, .int z] h (fun rv h' => rv = some (.int (aOrd n N x y z (fun O j => nI (O.getD j 0)))) ∧ lqf n N h h') := by
  have good : ∀ (k : Nat) (S : List Nat) (j : Nat) (h1 : MH), k < 3 → rdy h1 n N (k + 1) S → j < (ordL n N (k + 1) S).length → rdO n y = some S → lqf n N h h1 → Ev G (d + 6) M_X11_orderedGenerator 19 [some (.ref 0), some (.int (nI (k + 1))), some (.int y), some (.int (nI j)), some (.int 0)] [] h1 (fun rv h' => rv = some (.int (aOrd n N (nI (k + 1)) y (nI j) (fun O j => nI (O.getD j 0)))) ∧ lqf n N h h') := by
    intro k S j h1 hk hr hj hS lf
    have ll := ordL_len (S := S) ok hk
    rw [aOrd_ok ok hk hS hj]
    refine ev_aload_n dX11_orderedGenerator_19 rfl ?_
    refine ev_getR fl_X11_32 rfl rfl dX11_orderedGenerator_20 ?_
    refine ev_getR fl_X11_211 rfl rfl dX11_orderedGenerator_23 ?_
    refine ev_getR fl_X11_215 rfl rfl dX11_orderedGenerator_26 ?_
    refine ev_iload_n dX11_orderedGenerator_29 rfl ?_
    refine ev_ialdv (hr.2.2.2.1.2 j hj) rfl dX11_orderedGenerator_30 (by omega) (by omega) ?_
    refine ev_iret dX11_orderedGenerator_31 rfl ?_
    exact ⟨rfl, lf⟩
  refine ev_start 1 (lv := [some (.ref 0), some (.int x), some (.int y), some (.int z), none]) rfl (by decide) (Nat.le_of_ble_eq_true rfl) ?_
  refine ev_aload_n dX11_orderedGenerator_0 rfl ?_
  refine ev_iload_n dX11_orderedGenerator_1 rfl ?_
  refine ev_iload_n dX11_orderedGenerator_2 rfl ?_
  refine ev_iload_n dX11_orderedGenerator_3 rfl ?_
  refine ev_callV (cl_stepError gc ok c lq) ok_X11_stepError ml_X11_207 rfl rfl rfl rfl (Nat.le_of_ble_eq_true rfl) dX11_orderedGenerator_4 ?_
  rintro rv h1 ⟨r, rfl, lf, e⟩
  refine ev_ist4 dX11_orderedGenerator_7 (by decide) rfl ?_
  refine ev_iload dX11_orderedGenerator_9 rfl ?_
  refine ev_if_eq 19 dX11_orderedGenerator_11 (by decide) (fun c11 => ?_) (fun c11 => ?_)
  · obtain ⟨k, S, j, hk, rfl, hS, hr, hj, rfl⟩ := erP_ok e c11
    rw [c11]
    exact good k S j h1 hk hr hj hS lf
  · refine ev_iload dX11_orderedGenerator_14 rfl ?_
    refine ev_goto 31 dX11_orderedGenerator_16 (by decide) ?_
    refine ev_iret dX11_orderedGenerator_31 rfl ?_
    exact ⟨by rw [erP_bad e c11], lf⟩
theorem cl_colonVariablesC {n N : Nat} {x y z : Int32} (gc : gC h n N) (ok : gOK n N) (c : cI h n N) (lq : lqC h n N) : Cl G (d + 6) M_X11_colonVariables [.ref 0, .int x, .int y, .int z] h (fun rv h' => rv = some (.int (aOrd n N x y z (fun O j => nI (cSt n O j)))) ∧ lqf n N h h') := by
  have good : ∀ (k : Nat) (S : List Nat) (j : Nat) (h1 : MH), k < 3 → rdy h1 n N (k + 1) S → j < (ordL n N (k + 1) S).length → rdO n y = some S → lqf n N h h1 → Ev G (d + 6) M_X11_colonVariables 19 [some (.ref 0), some (.int (nI (k + 1))), some (.int y), some (.int (nI j)), some (.int 0)] [] h1 (fun rv h' => rv = some (.int (aOrd n N (nI (k + 1)) y (nI j) (fun O j => nI (cSt n O j)))) ∧ lqf n N h h') := by
    intro k S j h1 hk hr hj hS lf
    rw [aOrd_ok ok hk hS hj]
    refine ev_aload_n dX11_colonVariables_19 rfl ?_
    refine ev_getR fl_X11_32 rfl rfl dX11_colonVariables_20 ?_
    refine ev_iload_n dX11_colonVariables_23 rfl ?_
    refine ev_callV (cl_colonUnits (gC_s gc lf.1) ok hr (by omega) (by omega) hj) ok_X4_colonUnits ml_X11_219 rfl rfl rfl rfl (Nat.le_of_ble_eq_true rfl) dX11_colonVariables_24 (kI ?_)
    refine ev_callS (cl_supportOf) ok_X6_supportOf ml_X11_222 rfl rfl (Nat.le_of_ble_eq_true rfl) dX11_colonVariables_27 (kI ?_)
    refine ev_iret dX11_colonVariables_30 rfl ?_
    exact ⟨rfl, lf⟩
  refine ev_start 1 (lv := [some (.ref 0), some (.int x), some (.int y), some (.int z), none]) rfl (by decide) (Nat.le_of_ble_eq_true rfl) ?_
  refine ev_aload_n dX11_colonVariables_0 rfl ?_
  refine ev_iload_n dX11_colonVariables_1 rfl ?_
  refine ev_iload_n dX11_colonVariables_2 rfl ?_
  refine ev_iload_n dX11_colonVariables_3 rfl ?_
  refine ev_callV (cl_stepError gc ok c lq) ok_X11_stepError ml_X11_207 rfl rfl rfl rfl (Nat.le_of_ble_eq_true rfl) dX11_colonVariables_4 ?_
  rintro rv h1 ⟨r, rfl, lf, e⟩
  refine ev_ist4 dX11_colonVariables_7 (by decide) rfl ?_
  refine ev_iload dX11_colonVariables_9 rfl ?_
  refine ev_if_eq 19 dX11_colonVariables_11 (by decide) (fun c11 => ?_) (fun c11 => ?_)
  · obtain ⟨k, S, j, hk, rfl, hS, hr, hj, rfl⟩ := erP_ok e c11
    rw [c11]
    exact good k S j h1 hk hr hj hS lf
  · refine ev_iload dX11_colonVariables_14 rfl ?_
    refine ev_goto 30 dX11_colonVariables_16 (by decide) ?_
    refine ev_iret dX11_colonVariables_30 rfl ?_
    exact ⟨by rw [erP_bad e c11], lf⟩
theorem cl_isLinearStepC {n N : Nat} {x y z : Int32} (gc : gC h n N) (ok : gOK n N) (c : cI h n N) (lq : lqC h n N) : Cl G (d + 6) M_X11_isLinearStep [.ref 0, .int x, .int y, .int z] h (fun rv h' => rv = some (.int (aOrd n N x y z (fun O j => nI (b01 (Lin n O j))))) ∧ lqf n N h h') := by
  have good : ∀ (k : Nat) (S : List Nat) (j : Nat) (h1 : MH), k < 3 → rdy h1 n N (k + 1) S → j < (ordL n N (k + 1) S).length → rdO n y = some S → lqf n N h h1 → Ev G (d + 6) M_X11_isLinearStep 17 [some (.ref 0), some (.int (nI (k + 1))), some (.int y), some (.int (nI j)), some (.int 0)] [] h1 (fun rv h' => rv = some (.int (aOrd n N (nI (k + 1)) y (nI j) (fun O j => nI (b01 (Lin n O j))))) ∧ lqf n N h h') := by
    intro k S j h1 hk hr hj hS lf
    rw [aOrd_ok ok hk hS hj]
    have yl := b01_lt (Lin n (ordL n N (k + 1) S) j)
    refine ev_aload_n dX11_isLinearStep_17 rfl ?_
    refine ev_getR fl_X11_32 rfl rfl dX11_isLinearStep_18 ?_
    refine ev_iload_n dX11_isLinearStep_21 rfl ?_
    refine ev_callV (cl_isLinearAt (gC_s gc lf.1) ok hr (by omega) (by omega) hj) ok_X4_isLinearAt ml_X11_225 rfl rfl rfl rfl (Nat.le_of_ble_eq_true rfl) dX11_isLinearStep_22 (kI ?_)
    change Ev _ _ _ _ _ [.int (nI (b01 (Lin n (ordL n N (k + 1) S) j)))] _ _
    refine ev_if_eqN 32 dX11_isLinearStep_25 (by decide) (by omega) (fun c25 => ?_) (fun c25 => ?_)
    · refine ev_iconst (nI 0) dX11_isLinearStep_32 rfl ?_
      refine ev_iret dX11_isLinearStep_33 rfl ?_
      exact ⟨by rw [c25], lf⟩
    · refine ev_iconst (nI 1) dX11_isLinearStep_28 rfl ?_
      refine ev_goto 33 dX11_isLinearStep_29 (by decide) ?_
      refine ev_iret dX11_isLinearStep_33 rfl ?_
      exact ⟨by rw [show b01 (Lin n (ordL n N (k + 1) S) j) = 1 by omega], lf⟩
  refine ev_start 1 (lv := [some (.ref 0), some (.int x), some (.int y), some (.int z), none]) rfl (by decide) (Nat.le_of_ble_eq_true rfl) ?_
  refine ev_aload_n dX11_isLinearStep_0 rfl ?_
  refine ev_iload_n dX11_isLinearStep_1 rfl ?_
  refine ev_iload_n dX11_isLinearStep_2 rfl ?_
  refine ev_iload_n dX11_isLinearStep_3 rfl ?_
  refine ev_callV (cl_stepError gc ok c lq) ok_X11_stepError ml_X11_207 rfl rfl rfl rfl (Nat.le_of_ble_eq_true rfl) dX11_isLinearStep_4 ?_
  rintro rv h1 ⟨r, rfl, lf, e⟩
  refine ev_ist4 dX11_isLinearStep_7 (by decide) rfl ?_
  refine ev_iload dX11_isLinearStep_9 rfl ?_
  refine ev_if_eq 17 dX11_isLinearStep_11 (by decide) (fun c11 => ?_) (fun c11 => ?_)
  · obtain ⟨k, S, j, hk, rfl, hS, hr, hj, rfl⟩ := erP_ok e c11
    rw [c11]
    exact good k S j h1 hk hr hj hS lf
  · refine ev_iload dX11_isLinearStep_14 rfl ?_
    refine ev_iret dX11_isLinearStep_16 rfl ?_
    exact ⟨by rw [erP_bad e c11], lf⟩
end LQA
