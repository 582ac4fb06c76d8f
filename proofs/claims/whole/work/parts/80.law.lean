section LAW
def lw_CE : Nat := 91
def lw_SL : Nat := 77455
/-- the law's own frame, at a place of its loop: the world of class and reference as MH, the loop's number x -/
def Lw (G : MG) (p : Program) (e : Env) (s : State) (m : MethodId) (below : List Frame) (meth : Method) (c : Code) (b : Nat) (pc : Nat) (x : Int32) (st : List Value) (h : MH) : Prop :=
  ∀ (H : Heap) (locs : List Loc) (ls : Array Slot), va_P G.2.1 m_cls (m_ws G.2.2.2 G.2.2.1 h) H → va_D (fun q : Nat => s.heap.size ≤ q) (m_ws G.2.2.2 G.2.2.1 h) → va_S (fun q : Nat => s.heap.size ≤ q) s.heap H locs → lv_has ls 4 [(0, .ref b), (1, .ref (G.2.2.2 0)), (2, .ref (G.2.2.2 67)), (3, .int x)] → W p G.1 e room_1 s m #[Value.ref b] below meth c H locs lw_CE lw_SL (lw_Z below #[Value.ref b] s) (F0 m pc ls (st.map (m_v G.2.2.2)))
def LwC (G : MG) (p : Program) (s : State) (m : MethodId) (meth : Method) (c : Code) (b L : Nat) (xs : Nat → Int32) : Prop := lw_At p s m meth c b L xs ∧ va_K G.2.1 m_cls (m_tys G.2.2.1) s ∧ L ≤ 2048
variable {G : MG} {p : Program} {e : Env} {s : State} {m : MethodId} {below : List Frame} {meth : Method} {c : Code} {b L : Nat} {xs : Nat → Int32} {h : MH} {pc : Nat} {x : Int32} {st : List Value}
theorem lw_ld1 (C : LwC G p s m meth c b L xs) (hd : decode cL_law pc = .ok (.aload_n 1, 1)) (k : Lw G p e s m below meth c b (pc + 1) x (.ref 0 :: st) h) : Lw G p e s m below meth c b pc x st h := by
  intro H locs ls hP hD hS hl
  exact lv_aload_n C.1.1 C.1.2.1 hd rfl (lv_at hl 1 rfl) (k H locs ls hP hD hS hl)
theorem lw_ld2 (C : LwC G p s m meth c b L xs) (hd : decode cL_law pc = .ok (.aload_n 2, 1)) (k : Lw G p e s m below meth c b (pc + 1) x (.ref 67 :: st) h) : Lw G p e s m below meth c b pc x st h := by
  intro H locs ls hP hD hS hl
  exact lv_aload_n C.1.1 C.1.2.1 hd rfl (lv_at hl 2 rfl) (k H locs ls hP hD hS hl)
theorem lw_arg {i j : Nat} {n : Int} (C : LwC G p s m meth c b L xs) (hij : i + j < L) (hn : Int32.ofInt n = nI j) (d0 : decode cL_law pc = .ok (.aload_n 0, 1)) (d1 : decode cL_law (pc + 1) = .ok (.iload_n 3, 1)) (d2 : decode cL_law (pc + 1 + 1) = .ok (.iconst n, 1)) (d3 : decode cL_law (pc + 1 + 1 + 1) = .ok (.iadd, 1)) (d4 : decode cL_law (pc + 1 + 1 + 1 + 1) = .ok (.iaload, 1)) (k : Lw G p e s m below meth c b (pc + 1 + 1 + 1 + 1 + 1) (nI i) (.int (xs (i + j)) :: st) h) : Lw G p e s m below meth c b pc (nI i) st h := by
  intro H locs ls hP hD hS hl
  obtain ⟨⟨hx, hb, hr, hml, hown, hts, hX, hbl, hlocks, hgv⟩, hK, hL⟩ := C
  have hbA : ¬ (fun q : Nat => s.heap.size ≤ q) b := Nat.not_le.mpr hbl
  refine lv_aload_n hx hb d0 rfl (lv_at hl 0 rfl) ?_
  refine lv_iload_n hx hb d1 rfl (lv_at hl 3 rfl) ?_
  refine lv_iconst (v := nI j) hx hb d2 hn ?_
  refine lv_iadd hx hb d3 ?_
  rw [nI_add]
  refine va_sld hx hb hX hbl hbA hS (vp_in_nI hij (by omega)) d4 ?_
  rw [nI_clamp (by omega)]
  exact k H locs ls hP hD hS hl
theorem lw_tsub (hts : ∀ w ∈ lw_tbl, w.before #[Value.ref b] s = true) : ∀ w ∈ m_tbl, w.before #[Value.ref b] s = true := fun w hw => hts w (List.mem_filter.mp hw).1
theorem lw_call {N : MI} {d idx n b0 ci : Nat} {ts : List Nat} {T : u_T} {NN : Nat} {As rest : List Value} {Q' : Option Value → MH → Prop} (C : LwC G p s m meth c b L xs) (hcl : Cl G d N (.ref b0 :: As) h Q') (hov : m_OV N n) (hml : Cond.methodLink RL idx N.1 ∈ m_tbl) (hb0 : m_lay[b0]? = some (.inr (ci, ts))) (hc : m_cls[ci]? = some (N.1.cls, T, NN)) (hn : As.length = n) (hst : st = As.reverse ++ .ref b0 :: rest) (hroom : (rest.map fun v => v.category).sum ≤ 8) (hdr : d + 1 ≤ 2048 ∧ 64 * (d + 1) ≤ 84000) (hd : decode cL_law pc = .ok (.invokevirtual idx, 3))
    (k : ∀ rv h1, Q' rv h1 → Lw G p e s m below meth c b (pc + 3) x (rv.toList ++ rest) h1) : Lw G p e s m below meth c b pc x st h := by
  subst hst
  intro H locs ls hP hD hS hl
  obtain ⟨⟨hx, hb, hr, hmax, hown, hts0, hX, hbl, hlocks, hgv⟩, hK, hL⟩ := C
  have hts := lw_tsub hts0
  have hA : ∀ q : Nat, s.heap.size ≤ q → (fun q : Nat => s.heap.size ≤ q) q := fun _ h => h
  obtain ⟨⟨hi, hse⟩, hini, hcode, hdd, hm45⟩ := hov
  have hpre := m_pre (N := N) (av := .ref b0 :: As) hP hD hK
  have hfree := m_A_sub hD hS hA
  refine m_callK (G := G) (rest := rest.map (m_v G.2.2.2)) (va_runV (As := As.map (m_v G.2.2.2)) (nL := 4) (cc := cL_law) (Ts := m_tbl) (own := RL) (C := N.1.cls) ⟨hx, hb, hmax, hown, hts⟩ (hcl H.size) (n := n) ⟨m_cb hts hml hini hcode hdd hm45 hdr, hts _ hi, hts _ hse⟩ ⟨hpre.1, va_recv hK hP hc (m_ws_get hb0), hpre.2⟩ rfl (by rw [List.length_map]; exact hn) hl.1 (by simp only [List.map_append, List.map_reverse, List.map_cons]; rfl) (lv_room (by simpa [List.map_map, Function.comp_def, m_v_cat] using hroom)) hd ⟨Nat.le_of_ble_eq_true rfl, Nat.le_of_ble_eq_true rfl⟩) hS (fun q _ z => hfree q z) hfree ?_
  intro rv h1 t H1 locs1 ht hvm hq hP1 hD1 hS1
  have := k rv h1 hq H1 locs1 ls hP1 (hD1.weaken (fun _ q _ z => hfree q.1 z)) hS1 hl
  rw [List.map_append] at this
  rw [show (rv.map (m_v G.2.2.2)).toList = rv.toList.map (m_v G.2.2.2) by cases rv <;> rfl]
  exact this
theorem lw_eq {off : Int} {r : Int32} {tgt : Nat} (C : LwC G p s m meth c b L xs) (hd : decode cL_law pc = .ok (.if_icmp .eq off, 3)) (ht : (pc : Int) + off = (tgt : Int)) (k : Lw G p e s m below meth c b tgt x st h) : Lw G p e s m below meth c b pc x (.int r :: .int r :: st) h := by
  intro H locs ls hP hD hS hl
  exact lv_icmp_eq (tgt := tgt) C.1.1 C.1.2.1 hd ht (fun _ => k H locs ls hP hD hS hl) (fun z => absurd rfl z)
theorem lg_cmp_self (r : Int64) : lg_cmp r r = 0 := by
  unfold lg_cmp
  simp
theorem lw_leq {off : Int} {r : Int64} {tgt : Nat} (C : LwC G p s m meth c b L xs) (hd : decode cL_law pc = .ok (.lcmp, 1)) (hd2 : decode cL_law (pc + 1) = .ok (.ifCond .eq off, 3)) (ht : ((pc + 1 : Nat) : Int) + off = (tgt : Int)) (k : Lw G p e s m below meth c b tgt x st h) : Lw G p e s m below meth c b pc x (.long r :: .long r :: st) h := by
  intro H locs ls hP hD hS hl
  refine W.lcmp C.1.1 C.1.2.1 hd ?_
  exact lv_if_eq (tgt := tgt) C.1.1 C.1.2.1 hd2 ht (fun _ => k H locs ls hP hD hS hl) (fun z => absurd (lg_cmp_self r) z)
abbrev LwK (G : MG) (p : Program) (e : Env) (s : State) (m : MethodId) (below : List Frame) (meth : Method) (c : Code) (b i : Nat) : Prop := ∀ h2 : MH, Inv h2 → Lw G p e s m below meth c b 2324 (nI i) [] h2
theorem law_0 {i : Nat} (C : LwC G p s m meth c b L xs) (hi : i + 4 ≤ L) (iv : Inv h) (k : LwK G p e s m below meth c b i) : Lw G p e s m below meth c b 376 (nI i) [] h := by
  obtain ⟨a, ok, ci, ri⟩ := iv
  refine lw_ld1 C dL_law_376 ?_
  refine lw_arg (j := 1) C (by omega) (by decide) dL_law_377 dL_law_378 dL_law_379 dL_law_380 dL_law_381 ?_
  refine lw_call (As := [.int (xs (i + 1))]) C (pr_setVertexCount (G := G) (d := 0) (x := xs (i + 1)) ok ci ri) ok_X11_setVertexCount ml_L_13 rfl rfl rfl rfl (Nat.le_of_ble_eq_true rfl) ⟨Nat.le_of_ble_eq_true rfl, Nat.le_of_ble_eq_true rfl⟩ dL_law_382 ?_
  rintro rv h1 ⟨r, rfl, c2⟩
  refine lw_ld2 C dL_law_385 ?_
  refine lw_arg (j := 1) C (by omega) (by decide) dL_law_386 dL_law_387 dL_law_388 dL_law_389 dL_law_390 ?_
  refine lw_call (As := [.int (xs (i + 1))]) C c2 ok_X12_setVertexCount ml_L_17 rfl rfl rfl rfl (Nat.le_of_ble_eq_true rfl) ⟨Nat.le_of_ble_eq_true rfl, Nat.le_of_ble_eq_true rfl⟩ dL_law_391 ?_
  rintro rv h2 ⟨rfl, iv⟩
  exact lw_eq (tgt := 2324) C dL_law_394 (by decide) (k h2 iv)
theorem law_1 {i : Nat} (C : LwC G p s m meth c b L xs) (hi : i + 4 ≤ L) (iv : Inv h) (k : LwK G p e s m below meth c b i) : Lw G p e s m below meth c b 399 (nI i) [] h := by
  obtain ⟨a, ok, ci, ri⟩ := iv
  refine lw_ld1 C dL_law_399 ?_
  refine lw_arg (j := 1) C (by omega) (by decide) dL_law_400 dL_law_401 dL_law_402 dL_law_403 dL_law_404 ?_
  refine lw_arg (j := 2) C (by omega) (by decide) dL_law_405 dL_law_406 dL_law_407 dL_law_408 dL_law_409 ?_
  refine lw_call (As := [.int (xs (i + 1)), .int (xs (i + 2))]) C (pr_toggleEdge (G := G) (d := 0) (x := xs (i + 1)) (y := xs (i + 2)) ok ci ri) ok_X11_toggleEdge ml_L_18 rfl rfl rfl rfl (Nat.le_of_ble_eq_true rfl) ⟨Nat.le_of_ble_eq_true rfl, Nat.le_of_ble_eq_true rfl⟩ dL_law_410 ?_
  rintro rv h1 ⟨r, rfl, c2⟩
  refine lw_ld2 C dL_law_413 ?_
  refine lw_arg (j := 1) C (by omega) (by decide) dL_law_414 dL_law_415 dL_law_416 dL_law_417 dL_law_418 ?_
  refine lw_arg (j := 2) C (by omega) (by decide) dL_law_419 dL_law_420 dL_law_421 dL_law_422 dL_law_423 ?_
  refine lw_call (As := [.int (xs (i + 1)), .int (xs (i + 2))]) C c2 ok_X12_toggleEdge ml_L_22 rfl rfl rfl rfl (Nat.le_of_ble_eq_true rfl) ⟨Nat.le_of_ble_eq_true rfl, Nat.le_of_ble_eq_true rfl⟩ dL_law_424 ?_
  rintro rv h2 ⟨rfl, iv⟩
  exact lw_eq (tgt := 2324) C dL_law_427 (by decide) (k h2 iv)
theorem law_2 {i : Nat} (C : LwC G p s m meth c b L xs) (hi : i + 4 ≤ L) (iv : Inv h) (k : LwK G p e s m below meth c b i) : Lw G p e s m below meth c b 432 (nI i) [] h := by
  obtain ⟨a, ok, ci, ri⟩ := iv
  refine lw_ld1 C dL_law_432 ?_
  refine lw_arg (j := 1) C (by omega) (by decide) dL_law_433 dL_law_434 dL_law_435 dL_law_436 dL_law_437 ?_
  refine lw_call (As := [.int (xs (i + 1))]) C (pr_build (G := G) (d := 0) (x := xs (i + 1)) ok ci ri) ok_X11_build ml_L_23 rfl rfl rfl rfl (Nat.le_of_ble_eq_true rfl) ⟨Nat.le_of_ble_eq_true rfl, Nat.le_of_ble_eq_true rfl⟩ dL_law_438 ?_
  rintro rv h1 ⟨r, rfl, c2⟩
  refine lw_ld2 C dL_law_441 ?_
  refine lw_arg (j := 1) C (by omega) (by decide) dL_law_442 dL_law_443 dL_law_444 dL_law_445 dL_law_446 ?_
  refine lw_call (As := [.int (xs (i + 1))]) C c2 ok_X12_build ml_L_26 rfl rfl rfl rfl (Nat.le_of_ble_eq_true rfl) ⟨Nat.le_of_ble_eq_true rfl, Nat.le_of_ble_eq_true rfl⟩ dL_law_447 ?_
  rintro rv h2 ⟨rfl, iv⟩
  exact lw_eq (tgt := 2324) C dL_law_450 (by decide) (k h2 iv)
theorem law_3 {i : Nat} (C : LwC G p s m meth c b L xs) (hi : i + 4 ≤ L) (iv : Inv h) (k : LwK G p e s m below meth c b i) : Lw G p e s m below meth c b 455 (nI i) [] h := by
  obtain ⟨a, ok, ci, ri⟩ := iv
  refine lw_ld1 C dL_law_455 ?_
  refine lw_call (As := []) C (pr_revertChange (G := G) (d := 0)  ok ci ri) ok_X11_revertChange ml_L_27 rfl rfl rfl rfl (Nat.le_of_ble_eq_true rfl) ⟨Nat.le_of_ble_eq_true rfl, Nat.le_of_ble_eq_true rfl⟩ dL_law_456 ?_
  rintro rv h1 ⟨r, rfl, c2⟩
  refine lw_ld2 C dL_law_459 ?_
  refine lw_call (As := []) C c2 ok_X12_revertChange ml_L_31 rfl rfl rfl rfl (Nat.le_of_ble_eq_true rfl) ⟨Nat.le_of_ble_eq_true rfl, Nat.le_of_ble_eq_true rfl⟩ dL_law_460 ?_
  rintro rv h2 ⟨rfl, iv⟩
  exact lw_eq (tgt := 2324) C dL_law_463 (by decide) (k h2 iv)
theorem law_4 {i : Nat} (C : LwC G p s m meth c b L xs) (hi : i + 4 ≤ L) (iv : Inv h) (k : LwK G p e s m below meth c b i) : Lw G p e s m below meth c b 468 (nI i) [] h := by
  obtain ⟨a, ok, ci, ri⟩ := iv
  refine lw_ld1 C dL_law_468 ?_
  refine lw_call (As := []) C (pr_vertexCount (G := G) (d := 0) (x := 0) (y := 0) (z := 0) ok ci ri) ok_X11_vertexCount ml_L_32 rfl rfl rfl rfl (Nat.le_of_ble_eq_true rfl) ⟨Nat.le_of_ble_eq_true rfl, Nat.le_of_ble_eq_true rfl⟩ dL_law_469 ?_
  rintro rv h1 ⟨r, rfl, c2⟩
  refine lw_ld2 C dL_law_472 ?_
  refine lw_call (As := []) C c2 ok_X12_vertexCount ml_L_35 rfl rfl rfl rfl (Nat.le_of_ble_eq_true rfl) ⟨Nat.le_of_ble_eq_true rfl, Nat.le_of_ble_eq_true rfl⟩ dL_law_473 ?_
  rintro rv h2 ⟨rfl, iv⟩
  exact lw_eq (tgt := 2324) C dL_law_476 (by decide) (k h2 iv)
theorem law_5 {i : Nat} (C : LwC G p s m meth c b L xs) (hi : i + 4 ≤ L) (iv : Inv h) (k : LwK G p e s m below meth c b i) : Lw G p e s m below meth c b 481 (nI i) [] h := by
  obtain ⟨a, ok, ci, ri⟩ := iv
  refine lw_ld1 C dL_law_481 ?_
  refine lw_call (As := []) C (pr_edgeCount (G := G) (d := 0) (x := 0) (y := 0) (z := 0) ok ci ri) ok_X11_edgeCount ml_L_36 rfl rfl rfl rfl (Nat.le_of_ble_eq_true rfl) ⟨Nat.le_of_ble_eq_true rfl, Nat.le_of_ble_eq_true rfl⟩ dL_law_482 ?_
  rintro rv h1 ⟨r, rfl, c2⟩
  refine lw_ld2 C dL_law_485 ?_
  refine lw_call (As := []) C c2 ok_X12_edgeCount ml_L_39 rfl rfl rfl rfl (Nat.le_of_ble_eq_true rfl) ⟨Nat.le_of_ble_eq_true rfl, Nat.le_of_ble_eq_true rfl⟩ dL_law_486 ?_
  rintro rv h2 ⟨rfl, iv⟩
  exact lw_eq (tgt := 2324) C dL_law_489 (by decide) (k h2 iv)
theorem law_6 {i : Nat} (C : LwC G p s m meth c b L xs) (hi : i + 4 ≤ L) (iv : Inv h) (k : LwK G p e s m below meth c b i) : Lw G p e s m below meth c b 494 (nI i) [] h := by
  obtain ⟨a, ok, ci, ri⟩ := iv
  refine lw_ld1 C dL_law_494 ?_
  refine lw_arg (j := 1) C (by omega) (by decide) dL_law_495 dL_law_496 dL_law_497 dL_law_498 dL_law_499 ?_
  refine lw_call (As := [.int (xs (i + 1))]) C (pr_neighbors (G := G) (d := 0) (x := xs (i + 1)) (y := 0) (z := 0) ok ci ri) ok_X11_neighbors ml_L_40 rfl rfl rfl rfl (Nat.le_of_ble_eq_true rfl) ⟨Nat.le_of_ble_eq_true rfl, Nat.le_of_ble_eq_true rfl⟩ dL_law_500 ?_
  rintro rv h1 ⟨r, rfl, c2⟩
  refine lw_ld2 C dL_law_503 ?_
  refine lw_arg (j := 1) C (by omega) (by decide) dL_law_504 dL_law_505 dL_law_506 dL_law_507 dL_law_508 ?_
  refine lw_call (As := [.int (xs (i + 1))]) C c2 ok_X12_neighbors ml_L_43 rfl rfl rfl rfl (Nat.le_of_ble_eq_true rfl) ⟨Nat.le_of_ble_eq_true rfl, Nat.le_of_ble_eq_true rfl⟩ dL_law_509 ?_
  rintro rv h2 ⟨rfl, iv⟩
  exact lw_eq (tgt := 2324) C dL_law_512 (by decide) (k h2 iv)
theorem law_7 {i : Nat} (C : LwC G p s m meth c b L xs) (hi : i + 4 ≤ L) (iv : Inv h) (k : LwK G p e s m below meth c b i) : Lw G p e s m below meth c b 517 (nI i) [] h := by
  obtain ⟨a, ok, ci, ri⟩ := iv
  refine lw_ld1 C dL_law_517 ?_
  refine lw_call (As := []) C (pr_componentCount (G := G) (d := 0) (x := 0) (y := 0) (z := 0) ok ci ri) ok_X11_componentCount ml_L_44 rfl rfl rfl rfl (Nat.le_of_ble_eq_true rfl) ⟨Nat.le_of_ble_eq_true rfl, Nat.le_of_ble_eq_true rfl⟩ dL_law_518 ?_
  rintro rv h1 ⟨r, rfl, c2⟩
  refine lw_ld2 C dL_law_521 ?_
  refine lw_call (As := []) C c2 ok_X12_componentCount ml_L_47 rfl rfl rfl rfl (Nat.le_of_ble_eq_true rfl) ⟨Nat.le_of_ble_eq_true rfl, Nat.le_of_ble_eq_true rfl⟩ dL_law_522 ?_
  rintro rv h2 ⟨rfl, iv⟩
  exact lw_eq (tgt := 2324) C dL_law_525 (by decide) (k h2 iv)
theorem law_8 {i : Nat} (C : LwC G p s m meth c b L xs) (hi : i + 4 ≤ L) (iv : Inv h) (k : LwK G p e s m below meth c b i) : Lw G p e s m below meth c b 530 (nI i) [] h := by
  obtain ⟨a, ok, ci, ri⟩ := iv
  refine lw_ld1 C dL_law_530 ?_
  refine lw_call (As := []) C (pr_hasOddCycle (G := G) (d := 0) (x := 0) (y := 0) (z := 0) ok ci ri) ok_X11_hasOddCycle ml_L_48 rfl rfl rfl rfl (Nat.le_of_ble_eq_true rfl) ⟨Nat.le_of_ble_eq_true rfl, Nat.le_of_ble_eq_true rfl⟩ dL_law_531 ?_
  rintro rv h1 ⟨r, rfl, c2⟩
  refine lw_ld2 C dL_law_534 ?_
  refine lw_call (As := []) C c2 ok_X12_hasOddCycle ml_L_51 rfl rfl rfl rfl (Nat.le_of_ble_eq_true rfl) ⟨Nat.le_of_ble_eq_true rfl, Nat.le_of_ble_eq_true rfl⟩ dL_law_535 ?_
  rintro rv h2 ⟨rfl, iv⟩
  exact lw_eq (tgt := 2324) C dL_law_538 (by decide) (k h2 iv)
theorem law_9 {i : Nat} (C : LwC G p s m meth c b L xs) (hi : i + 4 ≤ L) (iv : Inv h) (k : LwK G p e s m below meth c b i) : Lw G p e s m below meth c b 543 (nI i) [] h := by
  obtain ⟨a, ok, ci, ri⟩ := iv
  refine lw_ld1 C dL_law_543 ?_
  refine lw_call (As := []) C (pr_matchingNumber (G := G) (d := 0) (x := 0) (y := 0) (z := 0) ok ci ri) ok_X11_matchingNumber ml_L_52 rfl rfl rfl rfl (Nat.le_of_ble_eq_true rfl) ⟨Nat.le_of_ble_eq_true rfl, Nat.le_of_ble_eq_true rfl⟩ dL_law_544 ?_
  rintro rv h1 ⟨r, rfl, c2⟩
  refine lw_ld2 C dL_law_547 ?_
  refine lw_call (As := []) C c2 ok_X12_matchingNumber ml_L_55 rfl rfl rfl rfl (Nat.le_of_ble_eq_true rfl) ⟨Nat.le_of_ble_eq_true rfl, Nat.le_of_ble_eq_true rfl⟩ dL_law_548 ?_
  rintro rv h2 ⟨rfl, iv⟩
  exact lw_eq (tgt := 2324) C dL_law_551 (by decide) (k h2 iv)
theorem law_10 {i : Nat} (C : LwC G p s m meth c b L xs) (hi : i + 4 ≤ L) (iv : Inv h) (k : LwK G p e s m below meth c b i) : Lw G p e s m below meth c b 556 (nI i) [] h := by
  obtain ⟨a, ok, ci, ri⟩ := iv
  refine lw_ld1 C dL_law_556 ?_
  refine lw_call (As := []) C (pr_coverCount (G := G) (d := 0) (x := 0) (y := 0) (z := 0) ok ci ri) ok_X11_coverCount ml_L_56 rfl rfl rfl rfl (Nat.le_of_ble_eq_true rfl) ⟨Nat.le_of_ble_eq_true rfl, Nat.le_of_ble_eq_true rfl⟩ dL_law_557 ?_
  rintro rv h1 ⟨r, rfl, c2⟩
  refine lw_ld2 C dL_law_560 ?_
  refine lw_call (As := []) C c2 ok_X12_coverCount ml_L_59 rfl rfl rfl rfl (Nat.le_of_ble_eq_true rfl) ⟨Nat.le_of_ble_eq_true rfl, Nat.le_of_ble_eq_true rfl⟩ dL_law_561 ?_
  rintro rv h2 ⟨rfl, iv⟩
  exact lw_eq (tgt := 2324) C dL_law_564 (by decide) (k h2 iv)
theorem law_11 {i : Nat} (C : LwC G p s m meth c b L xs) (hi : i + 4 ≤ L) (iv : Inv h) (k : LwK G p e s m below meth c b i) : Lw G p e s m below meth c b 569 (nI i) [] h := by
  obtain ⟨a, ok, ci, ri⟩ := iv
  refine lw_ld1 C dL_law_569 ?_
  refine lw_arg (j := 1) C (by omega) (by decide) dL_law_570 dL_law_571 dL_law_572 dL_law_573 dL_law_574 ?_
  refine lw_call (As := [.int (xs (i + 1))]) C (pr_cover (G := G) (d := 0) (x := xs (i + 1)) (y := 0) (z := 0) ok ci ri) ok_X11_cover ml_L_60 rfl rfl rfl rfl (Nat.le_of_ble_eq_true rfl) ⟨Nat.le_of_ble_eq_true rfl, Nat.le_of_ble_eq_true rfl⟩ dL_law_575 ?_
  rintro rv h1 ⟨r, rfl, c2⟩
  refine lw_ld2 C dL_law_578 ?_
  refine lw_arg (j := 1) C (by omega) (by decide) dL_law_579 dL_law_580 dL_law_581 dL_law_582 dL_law_583 ?_
  refine lw_call (As := [.int (xs (i + 1))]) C c2 ok_X12_cover ml_L_63 rfl rfl rfl rfl (Nat.le_of_ble_eq_true rfl) ⟨Nat.le_of_ble_eq_true rfl, Nat.le_of_ble_eq_true rfl⟩ dL_law_584 ?_
  rintro rv h2 ⟨rfl, iv⟩
  exact lw_eq (tgt := 2324) C dL_law_587 (by decide) (k h2 iv)
theorem law_12 {i : Nat} (C : LwC G p s m meth c b L xs) (hi : i + 4 ≤ L) (iv : Inv h) (k : LwK G p e s m below meth c b i) : Lw G p e s m below meth c b 592 (nI i) [] h := by
  obtain ⟨a, ok, ci, ri⟩ := iv
  refine lw_ld1 C dL_law_592 ?_
  refine lw_call (As := []) C (pr_height (G := G) (d := 0) (x := 0) (y := 0) (z := 0) ok ci ri) ok_X11_height ml_L_64 rfl rfl rfl rfl (Nat.le_of_ble_eq_true rfl) ⟨Nat.le_of_ble_eq_true rfl, Nat.le_of_ble_eq_true rfl⟩ dL_law_593 ?_
  rintro rv h1 ⟨r, rfl, c2⟩
  refine lw_ld2 C dL_law_596 ?_
  refine lw_call (As := []) C c2 ok_X12_height ml_L_67 rfl rfl rfl rfl (Nat.le_of_ble_eq_true rfl) ⟨Nat.le_of_ble_eq_true rfl, Nat.le_of_ble_eq_true rfl⟩ dL_law_597 ?_
  rintro rv h2 ⟨rfl, iv⟩
  exact lw_eq (tgt := 2324) C dL_law_600 (by decide) (k h2 iv)
theorem law_13 {i : Nat} (C : LwC G p s m meth c b L xs) (hi : i + 4 ≤ L) (iv : Inv h) (k : LwK G p e s m below meth c b i) : Lw G p e s m below meth c b 605 (nI i) [] h := by
  obtain ⟨a, ok, ci, ri⟩ := iv
  refine lw_ld1 C dL_law_605 ?_
  refine lw_call (As := []) C (pr_bigHeight (G := G) (d := 0) (x := 0) (y := 0) (z := 0) ok ci ri) ok_X11_bigHeight ml_L_68 rfl rfl rfl rfl (Nat.le_of_ble_eq_true rfl) ⟨Nat.le_of_ble_eq_true rfl, Nat.le_of_ble_eq_true rfl⟩ dL_law_606 ?_
  rintro rv h1 ⟨r, rfl, c2⟩
  refine lw_ld2 C dL_law_609 ?_
  refine lw_call (As := []) C c2 ok_X12_bigHeight ml_L_71 rfl rfl rfl rfl (Nat.le_of_ble_eq_true rfl) ⟨Nat.le_of_ble_eq_true rfl, Nat.le_of_ble_eq_true rfl⟩ dL_law_610 ?_
  rintro rv h2 ⟨rfl, iv⟩
  exact lw_eq (tgt := 2324) C dL_law_613 (by decide) (k h2 iv)
theorem law_14 {i : Nat} (C : LwC G p s m meth c b L xs) (hi : i + 4 ≤ L) (iv : Inv h) (k : LwK G p e s m below meth c b i) : Lw G p e s m below meth c b 618 (nI i) [] h := by
  obtain ⟨a, ok, ci, ri⟩ := iv
  refine lw_ld1 C dL_law_618 ?_
  refine lw_arg (j := 1) C (by omega) (by decide) dL_law_619 dL_law_620 dL_law_621 dL_law_622 dL_law_623 ?_
  refine lw_call (As := [.int (xs (i + 1))]) C (pr_eliminationLength (G := G) (d := 0) (x := xs (i + 1)) (y := 0) (z := 0) ok ci ri) ok_X11_eliminationLength ml_L_72 rfl rfl rfl rfl (Nat.le_of_ble_eq_true rfl) ⟨Nat.le_of_ble_eq_true rfl, Nat.le_of_ble_eq_true rfl⟩ dL_law_624 ?_
  rintro rv h1 ⟨r, rfl, c2⟩
  refine lw_ld2 C dL_law_627 ?_
  refine lw_arg (j := 1) C (by omega) (by decide) dL_law_628 dL_law_629 dL_law_630 dL_law_631 dL_law_632 ?_
  refine lw_call (As := [.int (xs (i + 1))]) C c2 ok_X12_eliminationLength ml_L_75 rfl rfl rfl rfl (Nat.le_of_ble_eq_true rfl) ⟨Nat.le_of_ble_eq_true rfl, Nat.le_of_ble_eq_true rfl⟩ dL_law_633 ?_
  rintro rv h2 ⟨rfl, iv⟩
  exact lw_eq (tgt := 2324) C dL_law_636 (by decide) (k h2 iv)
theorem law_15 {i : Nat} (C : LwC G p s m meth c b L xs) (hi : i + 4 ≤ L) (iv : Inv h) (k : LwK G p e s m below meth c b i) : Lw G p e s m below meth c b 641 (nI i) [] h := by
  obtain ⟨a, ok, ci, ri⟩ := iv
  refine lw_ld1 C dL_law_641 ?_
  refine lw_arg (j := 1) C (by omega) (by decide) dL_law_642 dL_law_643 dL_law_644 dL_law_645 dL_law_646 ?_
  refine lw_arg (j := 2) C (by omega) (by decide) dL_law_647 dL_law_648 dL_law_649 dL_law_650 dL_law_651 ?_
  refine lw_call (As := [.int (xs (i + 1)), .int (xs (i + 2))]) C (pr_eliminated (G := G) (d := 0) (x := xs (i + 1)) (y := xs (i + 2)) (z := 0) ok ci ri) ok_X11_eliminated ml_L_76 rfl rfl rfl rfl (Nat.le_of_ble_eq_true rfl) ⟨Nat.le_of_ble_eq_true rfl, Nat.le_of_ble_eq_true rfl⟩ dL_law_652 ?_
  rintro rv h1 ⟨r, rfl, c2⟩
  refine lw_ld2 C dL_law_655 ?_
  refine lw_arg (j := 1) C (by omega) (by decide) dL_law_656 dL_law_657 dL_law_658 dL_law_659 dL_law_660 ?_
  refine lw_arg (j := 2) C (by omega) (by decide) dL_law_661 dL_law_662 dL_law_663 dL_law_664 dL_law_665 ?_
  refine lw_call (As := [.int (xs (i + 1)), .int (xs (i + 2))]) C c2 ok_X12_eliminated ml_L_79 rfl rfl rfl rfl (Nat.le_of_ble_eq_true rfl) ⟨Nat.le_of_ble_eq_true rfl, Nat.le_of_ble_eq_true rfl⟩ dL_law_666 ?_
  rintro rv h2 ⟨rfl, iv⟩
  exact lw_eq (tgt := 2324) C dL_law_669 (by decide) (k h2 iv)
theorem law_16 {i : Nat} (C : LwC G p s m meth c b L xs) (hi : i + 4 ≤ L) (iv : Inv h) (k : LwK G p e s m below meth c b i) : Lw G p e s m below meth c b 674 (nI i) [] h := by
  obtain ⟨a, ok, ci, ri⟩ := iv
  refine lw_ld1 C dL_law_674 ?_
  refine lw_arg (j := 1) C (by omega) (by decide) dL_law_675 dL_law_676 dL_law_677 dL_law_678 dL_law_679 ?_
  refine lw_call (As := [.int (xs (i + 1))]) C (pr_isChordal (G := G) (d := 0) (x := xs (i + 1)) (y := 0) (z := 0) ok ci ri) ok_X11_isChordal ml_L_80 rfl rfl rfl rfl (Nat.le_of_ble_eq_true rfl) ⟨Nat.le_of_ble_eq_true rfl, Nat.le_of_ble_eq_true rfl⟩ dL_law_680 ?_
  rintro rv h1 ⟨r, rfl, c2⟩
  refine lw_ld2 C dL_law_683 ?_
  refine lw_arg (j := 1) C (by omega) (by decide) dL_law_684 dL_law_685 dL_law_686 dL_law_687 dL_law_688 ?_
  refine lw_call (As := [.int (xs (i + 1))]) C c2 ok_X12_isChordal ml_L_83 rfl rfl rfl rfl (Nat.le_of_ble_eq_true rfl) ⟨Nat.le_of_ble_eq_true rfl, Nat.le_of_ble_eq_true rfl⟩ dL_law_689 ?_
  rintro rv h2 ⟨rfl, iv⟩
  exact lw_eq (tgt := 2324) C dL_law_692 (by decide) (k h2 iv)
theorem law_17 {i : Nat} (C : LwC G p s m meth c b L xs) (hi : i + 4 ≤ L) (iv : Inv h) (k : LwK G p e s m below meth c b i) : Lw G p e s m below meth c b 697 (nI i) [] h := by
  obtain ⟨a, ok, ci, ri⟩ := iv
  refine lw_ld1 C dL_law_697 ?_
  refine lw_arg (j := 1) C (by omega) (by decide) dL_law_698 dL_law_699 dL_law_700 dL_law_701 dL_law_702 ?_
  refine lw_call (As := [.int (xs (i + 1))]) C (pr_degree (G := G) (d := 0) (x := xs (i + 1)) (y := 0) (z := 0) ok ci ri) ok_X11_degree ml_L_84 rfl rfl rfl rfl (Nat.le_of_ble_eq_true rfl) ⟨Nat.le_of_ble_eq_true rfl, Nat.le_of_ble_eq_true rfl⟩ dL_law_703 ?_
  rintro rv h1 ⟨r, rfl, c2⟩
  refine lw_ld2 C dL_law_706 ?_
  refine lw_arg (j := 1) C (by omega) (by decide) dL_law_707 dL_law_708 dL_law_709 dL_law_710 dL_law_711 ?_
  refine lw_call (As := [.int (xs (i + 1))]) C c2 ok_X12_degree ml_L_87 rfl rfl rfl rfl (Nat.le_of_ble_eq_true rfl) ⟨Nat.le_of_ble_eq_true rfl, Nat.le_of_ble_eq_true rfl⟩ dL_law_712 ?_
  rintro rv h2 ⟨rfl, iv⟩
  exact lw_eq (tgt := 2324) C dL_law_715 (by decide) (k h2 iv)
theorem law_18 {i : Nat} (C : LwC G p s m meth c b L xs) (hi : i + 4 ≤ L) (iv : Inv h) (k : LwK G p e s m below meth c b i) : Lw G p e s m below meth c b 720 (nI i) [] h := by
  obtain ⟨a, ok, ci, ri⟩ := iv
  refine lw_ld1 C dL_law_720 ?_
  refine lw_arg (j := 1) C (by omega) (by decide) dL_law_721 dL_law_722 dL_law_723 dL_law_724 dL_law_725 ?_
  refine lw_arg (j := 2) C (by omega) (by decide) dL_law_726 dL_law_727 dL_law_728 dL_law_729 dL_law_730 ?_
  refine lw_call (As := [.int (xs (i + 1)), .int (xs (i + 2))]) C (pr_exponent (G := G) (d := 0) (x := xs (i + 1)) (y := xs (i + 2)) (z := 0) ok ci ri) ok_X11_exponent ml_L_88 rfl rfl rfl rfl (Nat.le_of_ble_eq_true rfl) ⟨Nat.le_of_ble_eq_true rfl, Nat.le_of_ble_eq_true rfl⟩ dL_law_731 ?_
  rintro rv h1 ⟨r, rfl, c2⟩
  refine lw_ld2 C dL_law_734 ?_
  refine lw_arg (j := 1) C (by omega) (by decide) dL_law_735 dL_law_736 dL_law_737 dL_law_738 dL_law_739 ?_
  refine lw_arg (j := 2) C (by omega) (by decide) dL_law_740 dL_law_741 dL_law_742 dL_law_743 dL_law_744 ?_
  refine lw_call (As := [.int (xs (i + 1)), .int (xs (i + 2))]) C c2 ok_X12_exponent ml_L_91 rfl rfl rfl rfl (Nat.le_of_ble_eq_true rfl) ⟨Nat.le_of_ble_eq_true rfl, Nat.le_of_ble_eq_true rfl⟩ dL_law_745 ?_
  rintro rv h2 ⟨rfl, iv⟩
  exact lw_eq (tgt := 2324) C dL_law_748 (by decide) (k h2 iv)
theorem law_19 {i : Nat} (C : LwC G p s m meth c b L xs) (hi : i + 4 ≤ L) (iv : Inv h) (k : LwK G p e s m below meth c b i) : Lw G p e s m below meth c b 753 (nI i) [] h := by
  obtain ⟨a, ok, ci, ri⟩ := iv
  refine lw_ld1 C dL_law_753 ?_
  refine lw_arg (j := 1) C (by omega) (by decide) dL_law_754 dL_law_755 dL_law_756 dL_law_757 dL_law_758 ?_
  refine lw_call (As := [.int (xs (i + 1))]) C (pr_powerOrder (G := G) (d := 0) (x := xs (i + 1)) (y := 0) (z := 0) ok ci ri) ok_X11_powerOrder ml_L_92 rfl rfl rfl rfl (Nat.le_of_ble_eq_true rfl) ⟨Nat.le_of_ble_eq_true rfl, Nat.le_of_ble_eq_true rfl⟩ dL_law_759 ?_
  rintro rv h1 ⟨r, rfl, c2⟩
  refine lw_ld2 C dL_law_762 ?_
  refine lw_arg (j := 1) C (by omega) (by decide) dL_law_763 dL_law_764 dL_law_765 dL_law_766 dL_law_767 ?_
  refine lw_call (As := [.int (xs (i + 1))]) C c2 ok_X12_powerOrder ml_L_95 rfl rfl rfl rfl (Nat.le_of_ble_eq_true rfl) ⟨Nat.le_of_ble_eq_true rfl, Nat.le_of_ble_eq_true rfl⟩ dL_law_768 ?_
  rintro rv h2 ⟨rfl, iv⟩
  exact lw_eq (tgt := 2324) C dL_law_771 (by decide) (k h2 iv)
theorem law_20 {i : Nat} (C : LwC G p s m meth c b L xs) (hi : i + 4 ≤ L) (iv : Inv h) (k : LwK G p e s m below meth c b i) : Lw G p e s m below meth c b 776 (nI i) [] h := by
  obtain ⟨a, ok, ci, ri⟩ := iv
  refine lw_ld1 C dL_law_776 ?_
  refine lw_arg (j := 1) C (by omega) (by decide) dL_law_777 dL_law_778 dL_law_779 dL_law_780 dL_law_781 ?_
  refine lw_call (As := [.int (xs (i + 1))]) C (pr_symbolicOrder (G := G) (d := 0) (x := xs (i + 1)) (y := 0) (z := 0) ok ci ri) ok_X11_symbolicOrder ml_L_96 rfl rfl rfl rfl (Nat.le_of_ble_eq_true rfl) ⟨Nat.le_of_ble_eq_true rfl, Nat.le_of_ble_eq_true rfl⟩ dL_law_782 ?_
  rintro rv h1 ⟨r, rfl, c2⟩
  refine lw_ld2 C dL_law_785 ?_
  refine lw_arg (j := 1) C (by omega) (by decide) dL_law_786 dL_law_787 dL_law_788 dL_law_789 dL_law_790 ?_
  refine lw_call (As := [.int (xs (i + 1))]) C c2 ok_X12_symbolicOrder ml_L_99 rfl rfl rfl rfl (Nat.le_of_ble_eq_true rfl) ⟨Nat.le_of_ble_eq_true rfl, Nat.le_of_ble_eq_true rfl⟩ dL_law_791 ?_
  rintro rv h2 ⟨rfl, iv⟩
  exact lw_eq (tgt := 2324) C dL_law_794 (by decide) (k h2 iv)
theorem law_21 {i : Nat} (C : LwC G p s m meth c b L xs) (hi : i + 4 ≤ L) (iv : Inv h) (k : LwK G p e s m below meth c b i) : Lw G p e s m below meth c b 799 (nI i) [] h := by
  obtain ⟨a, ok, ci, ri⟩ := iv
  refine lw_ld1 C dL_law_799 ?_
  refine lw_arg (j := 1) C (by omega) (by decide) dL_law_800 dL_law_801 dL_law_802 dL_law_803 dL_law_804 ?_
  refine lw_arg (j := 2) C (by omega) (by decide) dL_law_805 dL_law_806 dL_law_807 dL_law_808 dL_law_809 ?_
  refine lw_call (As := [.int (xs (i + 1)), .int (xs (i + 2))]) C (pr_multiply (G := G) (d := 0) (x := xs (i + 1)) (y := xs (i + 2)) (z := 0) ok ci ri) ok_X11_multiply ml_L_100 rfl rfl rfl rfl (Nat.le_of_ble_eq_true rfl) ⟨Nat.le_of_ble_eq_true rfl, Nat.le_of_ble_eq_true rfl⟩ dL_law_810 ?_
  rintro rv h1 ⟨r, rfl, c2⟩
  refine lw_ld2 C dL_law_813 ?_
  refine lw_arg (j := 1) C (by omega) (by decide) dL_law_814 dL_law_815 dL_law_816 dL_law_817 dL_law_818 ?_
  refine lw_arg (j := 2) C (by omega) (by decide) dL_law_819 dL_law_820 dL_law_821 dL_law_822 dL_law_823 ?_
  refine lw_call (As := [.int (xs (i + 1)), .int (xs (i + 2))]) C c2 ok_X12_multiply ml_L_103 rfl rfl rfl rfl (Nat.le_of_ble_eq_true rfl) ⟨Nat.le_of_ble_eq_true rfl, Nat.le_of_ble_eq_true rfl⟩ dL_law_824 ?_
  rintro rv h2 ⟨rfl, iv⟩
  exact lw_eq (tgt := 2324) C dL_law_827 (by decide) (k h2 iv)
theorem law_22 {i : Nat} (C : LwC G p s m meth c b L xs) (hi : i + 4 ≤ L) (iv : Inv h) (k : LwK G p e s m below meth c b i) : Lw G p e s m below meth c b 832 (nI i) [] h := by
  obtain ⟨a, ok, ci, ri⟩ := iv
  refine lw_ld1 C dL_law_832 ?_
  refine lw_arg (j := 1) C (by omega) (by decide) dL_law_833 dL_law_834 dL_law_835 dL_law_836 dL_law_837 ?_
  refine lw_arg (j := 2) C (by omega) (by decide) dL_law_838 dL_law_839 dL_law_840 dL_law_841 dL_law_842 ?_
  refine lw_call (As := [.int (xs (i + 1)), .int (xs (i + 2))]) C (pr_divide (G := G) (d := 0) (x := xs (i + 1)) (y := xs (i + 2)) (z := 0) ok ci ri) ok_X11_divide ml_L_104 rfl rfl rfl rfl (Nat.le_of_ble_eq_true rfl) ⟨Nat.le_of_ble_eq_true rfl, Nat.le_of_ble_eq_true rfl⟩ dL_law_843 ?_
  rintro rv h1 ⟨r, rfl, c2⟩
  refine lw_ld2 C dL_law_846 ?_
  refine lw_arg (j := 1) C (by omega) (by decide) dL_law_847 dL_law_848 dL_law_849 dL_law_850 dL_law_851 ?_
  refine lw_arg (j := 2) C (by omega) (by decide) dL_law_852 dL_law_853 dL_law_854 dL_law_855 dL_law_856 ?_
  refine lw_call (As := [.int (xs (i + 1)), .int (xs (i + 2))]) C c2 ok_X12_divide ml_L_107 rfl rfl rfl rfl (Nat.le_of_ble_eq_true rfl) ⟨Nat.le_of_ble_eq_true rfl, Nat.le_of_ble_eq_true rfl⟩ dL_law_857 ?_
  rintro rv h2 ⟨rfl, iv⟩
  exact lw_eq (tgt := 2324) C dL_law_860 (by decide) (k h2 iv)
theorem law_23 {i : Nat} (C : LwC G p s m meth c b L xs) (hi : i + 4 ≤ L) (iv : Inv h) (k : LwK G p e s m below meth c b i) : Lw G p e s m below meth c b 865 (nI i) [] h := by
  obtain ⟨a, ok, ci, ri⟩ := iv
  refine lw_ld1 C dL_law_865 ?_
  refine lw_arg (j := 1) C (by omega) (by decide) dL_law_866 dL_law_867 dL_law_868 dL_law_869 dL_law_870 ?_
  refine lw_arg (j := 2) C (by omega) (by decide) dL_law_871 dL_law_872 dL_law_873 dL_law_874 dL_law_875 ?_
  refine lw_call (As := [.int (xs (i + 1)), .int (xs (i + 2))]) C (pr_lcm (G := G) (d := 0) (x := xs (i + 1)) (y := xs (i + 2)) (z := 0) ok ci ri) ok_X11_lcm ml_L_108 rfl rfl rfl rfl (Nat.le_of_ble_eq_true rfl) ⟨Nat.le_of_ble_eq_true rfl, Nat.le_of_ble_eq_true rfl⟩ dL_law_876 ?_
  rintro rv h1 ⟨r, rfl, c2⟩
  refine lw_ld2 C dL_law_879 ?_
  refine lw_arg (j := 1) C (by omega) (by decide) dL_law_880 dL_law_881 dL_law_882 dL_law_883 dL_law_884 ?_
  refine lw_arg (j := 2) C (by omega) (by decide) dL_law_885 dL_law_886 dL_law_887 dL_law_888 dL_law_889 ?_
  refine lw_call (As := [.int (xs (i + 1)), .int (xs (i + 2))]) C c2 ok_X12_lcm ml_L_111 rfl rfl rfl rfl (Nat.le_of_ble_eq_true rfl) ⟨Nat.le_of_ble_eq_true rfl, Nat.le_of_ble_eq_true rfl⟩ dL_law_890 ?_
  rintro rv h2 ⟨rfl, iv⟩
  exact lw_eq (tgt := 2324) C dL_law_893 (by decide) (k h2 iv)
theorem law_24 {i : Nat} (C : LwC G p s m meth c b L xs) (hi : i + 4 ≤ L) (iv : Inv h) (k : LwK G p e s m below meth c b i) : Lw G p e s m below meth c b 898 (nI i) [] h := by
  obtain ⟨a, ok, ci, ri⟩ := iv
  refine lw_ld1 C dL_law_898 ?_
  refine lw_arg (j := 1) C (by omega) (by decide) dL_law_899 dL_law_900 dL_law_901 dL_law_902 dL_law_903 ?_
  refine lw_arg (j := 2) C (by omega) (by decide) dL_law_904 dL_law_905 dL_law_906 dL_law_907 dL_law_908 ?_
  refine lw_call (As := [.int (xs (i + 1)), .int (xs (i + 2))]) C (pr_gcd (G := G) (d := 0) (x := xs (i + 1)) (y := xs (i + 2)) (z := 0) ok ci ri) ok_X11_gcd ml_L_112 rfl rfl rfl rfl (Nat.le_of_ble_eq_true rfl) ⟨Nat.le_of_ble_eq_true rfl, Nat.le_of_ble_eq_true rfl⟩ dL_law_909 ?_
  rintro rv h1 ⟨r, rfl, c2⟩
  refine lw_ld2 C dL_law_912 ?_
  refine lw_arg (j := 1) C (by omega) (by decide) dL_law_913 dL_law_914 dL_law_915 dL_law_916 dL_law_917 ?_
  refine lw_arg (j := 2) C (by omega) (by decide) dL_law_918 dL_law_919 dL_law_920 dL_law_921 dL_law_922 ?_
  refine lw_call (As := [.int (xs (i + 1)), .int (xs (i + 2))]) C c2 ok_X12_gcd ml_L_115 rfl rfl rfl rfl (Nat.le_of_ble_eq_true rfl) ⟨Nat.le_of_ble_eq_true rfl, Nat.le_of_ble_eq_true rfl⟩ dL_law_923 ?_
  rintro rv h2 ⟨rfl, iv⟩
  exact lw_eq (tgt := 2324) C dL_law_926 (by decide) (k h2 iv)
theorem law_25 {i : Nat} (C : LwC G p s m meth c b L xs) (hi : i + 4 ≤ L) (iv : Inv h) (k : LwK G p e s m below meth c b i) : Lw G p e s m below meth c b 931 (nI i) [] h := by
  obtain ⟨a, ok, ci, ri⟩ := iv
  refine lw_ld1 C dL_law_931 ?_
  refine lw_arg (j := 1) C (by omega) (by decide) dL_law_932 dL_law_933 dL_law_934 dL_law_935 dL_law_936 ?_
  refine lw_call (As := [.int (xs (i + 1))]) C (pr_generatorCount (G := G) (d := 0) (x := xs (i + 1)) (y := 0) (z := 0) ok ci ri) ok_X11_generatorCount ml_L_116 rfl rfl rfl rfl (Nat.le_of_ble_eq_true rfl) ⟨Nat.le_of_ble_eq_true rfl, Nat.le_of_ble_eq_true rfl⟩ dL_law_937 ?_
  rintro rv h1 ⟨r, rfl, c2⟩
  refine lw_ld2 C dL_law_940 ?_
  refine lw_arg (j := 1) C (by omega) (by decide) dL_law_941 dL_law_942 dL_law_943 dL_law_944 dL_law_945 ?_
  refine lw_call (As := [.int (xs (i + 1))]) C c2 ok_X12_generatorCount ml_L_119 rfl rfl rfl rfl (Nat.le_of_ble_eq_true rfl) ⟨Nat.le_of_ble_eq_true rfl, Nat.le_of_ble_eq_true rfl⟩ dL_law_946 ?_
  rintro rv h2 ⟨rfl, iv⟩
  exact lw_eq (tgt := 2324) C dL_law_949 (by decide) (k h2 iv)
theorem law_26 {i : Nat} (C : LwC G p s m meth c b L xs) (hi : i + 4 ≤ L) (iv : Inv h) (k : LwK G p e s m below meth c b i) : Lw G p e s m below meth c b 954 (nI i) [] h := by
  obtain ⟨a, ok, ci, ri⟩ := iv
  refine lw_ld1 C dL_law_954 ?_
  refine lw_arg (j := 1) C (by omega) (by decide) dL_law_955 dL_law_956 dL_law_957 dL_law_958 dL_law_959 ?_
  refine lw_arg (j := 2) C (by omega) (by decide) dL_law_960 dL_law_961 dL_law_962 dL_law_963 dL_law_964 ?_
  refine lw_call (As := [.int (xs (i + 1)), .int (xs (i + 2))]) C (pr_generator (G := G) (d := 0) (x := xs (i + 1)) (y := xs (i + 2)) (z := 0) ok ci ri) ok_X11_generator ml_L_120 rfl rfl rfl rfl (Nat.le_of_ble_eq_true rfl) ⟨Nat.le_of_ble_eq_true rfl, Nat.le_of_ble_eq_true rfl⟩ dL_law_965 ?_
  rintro rv h1 ⟨r, rfl, c2⟩
  refine lw_ld2 C dL_law_968 ?_
  refine lw_arg (j := 1) C (by omega) (by decide) dL_law_969 dL_law_970 dL_law_971 dL_law_972 dL_law_973 ?_
  refine lw_arg (j := 2) C (by omega) (by decide) dL_law_974 dL_law_975 dL_law_976 dL_law_977 dL_law_978 ?_
  refine lw_call (As := [.int (xs (i + 1)), .int (xs (i + 2))]) C c2 ok_X12_generator ml_L_123 rfl rfl rfl rfl (Nat.le_of_ble_eq_true rfl) ⟨Nat.le_of_ble_eq_true rfl, Nat.le_of_ble_eq_true rfl⟩ dL_law_979 ?_
  rintro rv h2 ⟨rfl, iv⟩
  exact lw_eq (tgt := 2324) C dL_law_982 (by decide) (k h2 iv)
theorem law_27 {i : Nat} (C : LwC G p s m meth c b L xs) (hi : i + 4 ≤ L) (iv : Inv h) (k : LwK G p e s m below meth c b i) : Lw G p e s m below meth c b 987 (nI i) [] h := by
  obtain ⟨a, ok, ci, ri⟩ := iv
  refine lw_ld1 C dL_law_987 ?_
  refine lw_arg (j := 1) C (by omega) (by decide) dL_law_988 dL_law_989 dL_law_990 dL_law_991 dL_law_992 ?_
  refine lw_call (As := [.int (xs (i + 1))]) C (pr_symbolicGeneratorCount (G := G) (d := 0) (x := xs (i + 1)) (y := 0) (z := 0) ok ci ri) ok_X11_symbolicGeneratorCount ml_L_124 rfl rfl rfl rfl (Nat.le_of_ble_eq_true rfl) ⟨Nat.le_of_ble_eq_true rfl, Nat.le_of_ble_eq_true rfl⟩ dL_law_993 ?_
  rintro rv h1 ⟨r, rfl, c2⟩
  refine lw_ld2 C dL_law_996 ?_
  refine lw_arg (j := 1) C (by omega) (by decide) dL_law_997 dL_law_998 dL_law_999 dL_law_1000 dL_law_1001 ?_
  refine lw_call (As := [.int (xs (i + 1))]) C c2 ok_X12_symbolicGeneratorCount ml_L_127 rfl rfl rfl rfl (Nat.le_of_ble_eq_true rfl) ⟨Nat.le_of_ble_eq_true rfl, Nat.le_of_ble_eq_true rfl⟩ dL_law_1002 ?_
  rintro rv h2 ⟨rfl, iv⟩
  exact lw_eq (tgt := 2324) C dL_law_1005 (by decide) (k h2 iv)
theorem law_28 {i : Nat} (C : LwC G p s m meth c b L xs) (hi : i + 4 ≤ L) (iv : Inv h) (k : LwK G p e s m below meth c b i) : Lw G p e s m below meth c b 1010 (nI i) [] h := by
  obtain ⟨a, ok, ci, ri⟩ := iv
  refine lw_ld1 C dL_law_1010 ?_
  refine lw_arg (j := 1) C (by omega) (by decide) dL_law_1011 dL_law_1012 dL_law_1013 dL_law_1014 dL_law_1015 ?_
  refine lw_arg (j := 2) C (by omega) (by decide) dL_law_1016 dL_law_1017 dL_law_1018 dL_law_1019 dL_law_1020 ?_
  refine lw_call (As := [.int (xs (i + 1)), .int (xs (i + 2))]) C (pr_symbolicGenerator (G := G) (d := 0) (x := xs (i + 1)) (y := xs (i + 2)) (z := 0) ok ci ri) ok_X11_symbolicGenerator ml_L_128 rfl rfl rfl rfl (Nat.le_of_ble_eq_true rfl) ⟨Nat.le_of_ble_eq_true rfl, Nat.le_of_ble_eq_true rfl⟩ dL_law_1021 ?_
  rintro rv h1 ⟨r, rfl, c2⟩
  refine lw_ld2 C dL_law_1024 ?_
  refine lw_arg (j := 1) C (by omega) (by decide) dL_law_1025 dL_law_1026 dL_law_1027 dL_law_1028 dL_law_1029 ?_
  refine lw_arg (j := 2) C (by omega) (by decide) dL_law_1030 dL_law_1031 dL_law_1032 dL_law_1033 dL_law_1034 ?_
  refine lw_call (As := [.int (xs (i + 1)), .int (xs (i + 2))]) C c2 ok_X12_symbolicGenerator ml_L_131 rfl rfl rfl rfl (Nat.le_of_ble_eq_true rfl) ⟨Nat.le_of_ble_eq_true rfl, Nat.le_of_ble_eq_true rfl⟩ dL_law_1035 ?_
  rintro rv h2 ⟨rfl, iv⟩
  exact lw_eq (tgt := 2324) C dL_law_1038 (by decide) (k h2 iv)
theorem law_29 {i : Nat} (C : LwC G p s m meth c b L xs) (hi : i + 4 ≤ L) (iv : Inv h) (k : LwK G p e s m below meth c b i) : Lw G p e s m below meth c b 1043 (nI i) [] h := by
  obtain ⟨a, ok, ci, ri⟩ := iv
  refine lw_ld1 C dL_law_1043 ?_
  refine lw_arg (j := 1) C (by omega) (by decide) dL_law_1044 dL_law_1045 dL_law_1046 dL_law_1047 dL_law_1048 ?_
  refine lw_call (As := [.int (xs (i + 1))]) C (pr_powersAgree (G := G) (d := 0) (x := xs (i + 1)) (y := 0) (z := 0) ok ci ri) ok_X11_powersAgree ml_L_132 rfl rfl rfl rfl (Nat.le_of_ble_eq_true rfl) ⟨Nat.le_of_ble_eq_true rfl, Nat.le_of_ble_eq_true rfl⟩ dL_law_1049 ?_
  rintro rv h1 ⟨r, rfl, c2⟩
  refine lw_ld2 C dL_law_1052 ?_
  refine lw_arg (j := 1) C (by omega) (by decide) dL_law_1053 dL_law_1054 dL_law_1055 dL_law_1056 dL_law_1057 ?_
  refine lw_call (As := [.int (xs (i + 1))]) C c2 ok_X12_powersAgree ml_L_135 rfl rfl rfl rfl (Nat.le_of_ble_eq_true rfl) ⟨Nat.le_of_ble_eq_true rfl, Nat.le_of_ble_eq_true rfl⟩ dL_law_1058 ?_
  rintro rv h2 ⟨rfl, iv⟩
  exact lw_eq (tgt := 2324) C dL_law_1061 (by decide) (k h2 iv)
theorem law_30 {i : Nat} (C : LwC G p s m meth c b L xs) (hi : i + 4 ≤ L) (iv : Inv h) (k : LwK G p e s m below meth c b i) : Lw G p e s m below meth c b 1066 (nI i) [] h := by
  obtain ⟨a, ok, ci, ri⟩ := iv
  refine lw_ld1 C dL_law_1066 ?_
  refine lw_arg (j := 1) C (by omega) (by decide) dL_law_1067 dL_law_1068 dL_law_1069 dL_law_1070 dL_law_1071 ?_
  refine lw_call (As := [.int (xs (i + 1))]) C (pr_firstDifference (G := G) (d := 0) (x := xs (i + 1)) (y := 0) (z := 0) ok ci ri) ok_X11_firstDifference ml_L_136 rfl rfl rfl rfl (Nat.le_of_ble_eq_true rfl) ⟨Nat.le_of_ble_eq_true rfl, Nat.le_of_ble_eq_true rfl⟩ dL_law_1072 ?_
  rintro rv h1 ⟨r, rfl, c2⟩
  refine lw_ld2 C dL_law_1075 ?_
  refine lw_arg (j := 1) C (by omega) (by decide) dL_law_1076 dL_law_1077 dL_law_1078 dL_law_1079 dL_law_1080 ?_
  refine lw_call (As := [.int (xs (i + 1))]) C c2 ok_X12_firstDifference ml_L_139 rfl rfl rfl rfl (Nat.le_of_ble_eq_true rfl) ⟨Nat.le_of_ble_eq_true rfl, Nat.le_of_ble_eq_true rfl⟩ dL_law_1081 ?_
  rintro rv h2 ⟨rfl, iv⟩
  exact lw_eq (tgt := 2324) C dL_law_1084 (by decide) (k h2 iv)
theorem law_31 {i : Nat} (C : LwC G p s m meth c b L xs) (hi : i + 4 ≤ L) (iv : Inv h) (k : LwK G p e s m below meth c b i) : Lw G p e s m below meth c b 1089 (nI i) [] h := by
  obtain ⟨a, ok, ci, ri⟩ := iv
  refine lw_ld1 C dL_law_1089 ?_
  refine lw_arg (j := 1) C (by omega) (by decide) dL_law_1090 dL_law_1091 dL_law_1092 dL_law_1093 dL_law_1094 ?_
  refine lw_arg (j := 2) C (by omega) (by decide) dL_law_1095 dL_law_1096 dL_law_1097 dL_law_1098 dL_law_1099 ?_
  refine lw_call (As := [.int (xs (i + 1)), .int (xs (i + 2))]) C (pr_countInPower (G := G) (d := 0) (x := xs (i + 1)) (y := xs (i + 2)) (z := 0) ok ci ri) ok_X11_countInPower ml_L_140 rfl rfl rfl rfl (Nat.le_of_ble_eq_true rfl) ⟨Nat.le_of_ble_eq_true rfl, Nat.le_of_ble_eq_true rfl⟩ dL_law_1100 ?_
  rintro rv h1 ⟨r, rfl, c2⟩
  refine lw_ld2 C dL_law_1103 ?_
  refine lw_arg (j := 1) C (by omega) (by decide) dL_law_1104 dL_law_1105 dL_law_1106 dL_law_1107 dL_law_1108 ?_
  refine lw_arg (j := 2) C (by omega) (by decide) dL_law_1109 dL_law_1110 dL_law_1111 dL_law_1112 dL_law_1113 ?_
  refine lw_call (As := [.int (xs (i + 1)), .int (xs (i + 2))]) C c2 ok_X12_countInPower ml_L_143 rfl rfl rfl rfl (Nat.le_of_ble_eq_true rfl) ⟨Nat.le_of_ble_eq_true rfl, Nat.le_of_ble_eq_true rfl⟩ dL_law_1114 ?_
  rintro rv h2 ⟨rfl, iv⟩
  exact lw_eq (tgt := 2324) C dL_law_1117 (by decide) (k h2 iv)
theorem law_32 {i : Nat} (C : LwC G p s m meth c b L xs) (hi : i + 4 ≤ L) (iv : Inv h) (k : LwK G p e s m below meth c b i) : Lw G p e s m below meth c b 1122 (nI i) [] h := by
  obtain ⟨a, ok, ci, ri⟩ := iv
  refine lw_ld1 C dL_law_1122 ?_
  refine lw_arg (j := 1) C (by omega) (by decide) dL_law_1123 dL_law_1124 dL_law_1125 dL_law_1126 dL_law_1127 ?_
  refine lw_arg (j := 2) C (by omega) (by decide) dL_law_1128 dL_law_1129 dL_law_1130 dL_law_1131 dL_law_1132 ?_
  refine lw_call (As := [.int (xs (i + 1)), .int (xs (i + 2))]) C (pr_countInSymbolicPower (G := G) (d := 0) (x := xs (i + 1)) (y := xs (i + 2)) (z := 0) ok ci ri) ok_X11_countInSymbolicPower ml_L_144 rfl rfl rfl rfl (Nat.le_of_ble_eq_true rfl) ⟨Nat.le_of_ble_eq_true rfl, Nat.le_of_ble_eq_true rfl⟩ dL_law_1133 ?_
  rintro rv h1 ⟨r, rfl, c2⟩
  refine lw_ld2 C dL_law_1136 ?_
  refine lw_arg (j := 1) C (by omega) (by decide) dL_law_1137 dL_law_1138 dL_law_1139 dL_law_1140 dL_law_1141 ?_
  refine lw_arg (j := 2) C (by omega) (by decide) dL_law_1142 dL_law_1143 dL_law_1144 dL_law_1145 dL_law_1146 ?_
  refine lw_call (As := [.int (xs (i + 1)), .int (xs (i + 2))]) C c2 ok_X12_countInSymbolicPower ml_L_147 rfl rfl rfl rfl (Nat.le_of_ble_eq_true rfl) ⟨Nat.le_of_ble_eq_true rfl, Nat.le_of_ble_eq_true rfl⟩ dL_law_1147 ?_
  rintro rv h2 ⟨rfl, iv⟩
  exact lw_eq (tgt := 2324) C dL_law_1150 (by decide) (k h2 iv)
theorem law_33 {i : Nat} (C : LwC G p s m meth c b L xs) (hi : i + 4 ≤ L) (iv : Inv h) (k : LwK G p e s m below meth c b i) : Lw G p e s m below meth c b 1155 (nI i) [] h := by
  obtain ⟨a, ok, ci, ri⟩ := iv
  refine lw_ld1 C dL_law_1155 ?_
  refine lw_arg (j := 1) C (by omega) (by decide) dL_law_1156 dL_law_1157 dL_law_1158 dL_law_1159 dL_law_1160 ?_
  refine lw_arg (j := 2) C (by omega) (by decide) dL_law_1161 dL_law_1162 dL_law_1163 dL_law_1164 dL_law_1165 ?_
  refine lw_arg (j := 3) C (by omega) (by decide) dL_law_1166 dL_law_1167 dL_law_1168 dL_law_1169 dL_law_1170 ?_
  refine lw_call (As := [.int (xs (i + 1)), .int (xs (i + 2)), .int (xs (i + 3))]) C (pr_orderedGenerator (G := G) (d := 0) (x := xs (i + 1)) (y := xs (i + 2)) (z := xs (i + 3)) ok ci ri) ok_X11_orderedGenerator ml_L_148 rfl rfl rfl rfl (Nat.le_of_ble_eq_true rfl) ⟨Nat.le_of_ble_eq_true rfl, Nat.le_of_ble_eq_true rfl⟩ dL_law_1171 ?_
  rintro rv h1 ⟨r, rfl, c2⟩
  refine lw_ld2 C dL_law_1174 ?_
  refine lw_arg (j := 1) C (by omega) (by decide) dL_law_1175 dL_law_1176 dL_law_1177 dL_law_1178 dL_law_1179 ?_
  refine lw_arg (j := 2) C (by omega) (by decide) dL_law_1180 dL_law_1181 dL_law_1182 dL_law_1183 dL_law_1184 ?_
  refine lw_arg (j := 3) C (by omega) (by decide) dL_law_1185 dL_law_1186 dL_law_1187 dL_law_1188 dL_law_1189 ?_
  refine lw_call (As := [.int (xs (i + 1)), .int (xs (i + 2)), .int (xs (i + 3))]) C c2 ok_X12_orderedGenerator ml_L_152 rfl rfl rfl rfl (Nat.le_of_ble_eq_true rfl) ⟨Nat.le_of_ble_eq_true rfl, Nat.le_of_ble_eq_true rfl⟩ dL_law_1190 ?_
  rintro rv h2 ⟨rfl, iv⟩
  exact lw_eq (tgt := 2324) C dL_law_1193 (by decide) (k h2 iv)
theorem law_34 {i : Nat} (C : LwC G p s m meth c b L xs) (hi : i + 4 ≤ L) (iv : Inv h) (k : LwK G p e s m below meth c b i) : Lw G p e s m below meth c b 1198 (nI i) [] h := by
  obtain ⟨a, ok, ci, ri⟩ := iv
  refine lw_ld1 C dL_law_1198 ?_
  refine lw_arg (j := 1) C (by omega) (by decide) dL_law_1199 dL_law_1200 dL_law_1201 dL_law_1202 dL_law_1203 ?_
  refine lw_arg (j := 2) C (by omega) (by decide) dL_law_1204 dL_law_1205 dL_law_1206 dL_law_1207 dL_law_1208 ?_
  refine lw_arg (j := 3) C (by omega) (by decide) dL_law_1209 dL_law_1210 dL_law_1211 dL_law_1212 dL_law_1213 ?_
  refine lw_call (As := [.int (xs (i + 1)), .int (xs (i + 2)), .int (xs (i + 3))]) C (pr_colonVariables (G := G) (d := 0) (x := xs (i + 1)) (y := xs (i + 2)) (z := xs (i + 3)) ok ci ri) ok_X11_colonVariables ml_L_153 rfl rfl rfl rfl (Nat.le_of_ble_eq_true rfl) ⟨Nat.le_of_ble_eq_true rfl, Nat.le_of_ble_eq_true rfl⟩ dL_law_1214 ?_
  rintro rv h1 ⟨r, rfl, c2⟩
  refine lw_ld2 C dL_law_1217 ?_
  refine lw_arg (j := 1) C (by omega) (by decide) dL_law_1218 dL_law_1219 dL_law_1220 dL_law_1221 dL_law_1222 ?_
  refine lw_arg (j := 2) C (by omega) (by decide) dL_law_1223 dL_law_1224 dL_law_1225 dL_law_1226 dL_law_1227 ?_
  refine lw_arg (j := 3) C (by omega) (by decide) dL_law_1228 dL_law_1229 dL_law_1230 dL_law_1231 dL_law_1232 ?_
  refine lw_call (As := [.int (xs (i + 1)), .int (xs (i + 2)), .int (xs (i + 3))]) C c2 ok_X12_colonVariables ml_L_156 rfl rfl rfl rfl (Nat.le_of_ble_eq_true rfl) ⟨Nat.le_of_ble_eq_true rfl, Nat.le_of_ble_eq_true rfl⟩ dL_law_1233 ?_
  rintro rv h2 ⟨rfl, iv⟩
  exact lw_eq (tgt := 2324) C dL_law_1236 (by decide) (k h2 iv)
theorem law_35 {i : Nat} (C : LwC G p s m meth c b L xs) (hi : i + 4 ≤ L) (iv : Inv h) (k : LwK G p e s m below meth c b i) : Lw G p e s m below meth c b 1241 (nI i) [] h := by
  obtain ⟨a, ok, ci, ri⟩ := iv
  refine lw_ld1 C dL_law_1241 ?_
  refine lw_arg (j := 1) C (by omega) (by decide) dL_law_1242 dL_law_1243 dL_law_1244 dL_law_1245 dL_law_1246 ?_
  refine lw_arg (j := 2) C (by omega) (by decide) dL_law_1247 dL_law_1248 dL_law_1249 dL_law_1250 dL_law_1251 ?_
  refine lw_arg (j := 3) C (by omega) (by decide) dL_law_1252 dL_law_1253 dL_law_1254 dL_law_1255 dL_law_1256 ?_
  refine lw_call (As := [.int (xs (i + 1)), .int (xs (i + 2)), .int (xs (i + 3))]) C (pr_isLinearStep (G := G) (d := 0) (x := xs (i + 1)) (y := xs (i + 2)) (z := xs (i + 3)) ok ci ri) ok_X11_isLinearStep ml_L_157 rfl rfl rfl rfl (Nat.le_of_ble_eq_true rfl) ⟨Nat.le_of_ble_eq_true rfl, Nat.le_of_ble_eq_true rfl⟩ dL_law_1257 ?_
  rintro rv h1 ⟨r, rfl, c2⟩
  refine lw_ld2 C dL_law_1260 ?_
  refine lw_arg (j := 1) C (by omega) (by decide) dL_law_1261 dL_law_1262 dL_law_1263 dL_law_1264 dL_law_1265 ?_
  refine lw_arg (j := 2) C (by omega) (by decide) dL_law_1266 dL_law_1267 dL_law_1268 dL_law_1269 dL_law_1270 ?_
  refine lw_arg (j := 3) C (by omega) (by decide) dL_law_1271 dL_law_1272 dL_law_1273 dL_law_1274 dL_law_1275 ?_
  refine lw_call (As := [.int (xs (i + 1)), .int (xs (i + 2)), .int (xs (i + 3))]) C c2 ok_X12_isLinearStep ml_L_160 rfl rfl rfl rfl (Nat.le_of_ble_eq_true rfl) ⟨Nat.le_of_ble_eq_true rfl, Nat.le_of_ble_eq_true rfl⟩ dL_law_1276 ?_
  rintro rv h2 ⟨rfl, iv⟩
  exact lw_eq (tgt := 2324) C dL_law_1279 (by decide) (k h2 iv)
theorem law_36 {i : Nat} (C : LwC G p s m meth c b L xs) (hi : i + 4 ≤ L) (iv : Inv h) (k : LwK G p e s m below meth c b i) : Lw G p e s m below meth c b 1284 (nI i) [] h := by
  obtain ⟨a, ok, ci, ri⟩ := iv
  refine lw_ld1 C dL_law_1284 ?_
  refine lw_arg (j := 1) C (by omega) (by decide) dL_law_1285 dL_law_1286 dL_law_1287 dL_law_1288 dL_law_1289 ?_
  refine lw_arg (j := 2) C (by omega) (by decide) dL_law_1290 dL_law_1291 dL_law_1292 dL_law_1293 dL_law_1294 ?_
  refine lw_call (As := [.int (xs (i + 1)), .int (xs (i + 2))]) C (pr_firstNonLinearStep (G := G) (d := 0) (x := xs (i + 1)) (y := xs (i + 2)) (z := 0) ok ci ri) ok_X11_firstNonLinearStep ml_L_161 rfl rfl rfl rfl (Nat.le_of_ble_eq_true rfl) ⟨Nat.le_of_ble_eq_true rfl, Nat.le_of_ble_eq_true rfl⟩ dL_law_1295 ?_
  rintro rv h1 ⟨r, rfl, c2⟩
  refine lw_ld2 C dL_law_1298 ?_
  refine lw_arg (j := 1) C (by omega) (by decide) dL_law_1299 dL_law_1300 dL_law_1301 dL_law_1302 dL_law_1303 ?_
  refine lw_arg (j := 2) C (by omega) (by decide) dL_law_1304 dL_law_1305 dL_law_1306 dL_law_1307 dL_law_1308 ?_
  refine lw_call (As := [.int (xs (i + 1)), .int (xs (i + 2))]) C c2 ok_X12_firstNonLinearStep ml_L_164 rfl rfl rfl rfl (Nat.le_of_ble_eq_true rfl) ⟨Nat.le_of_ble_eq_true rfl, Nat.le_of_ble_eq_true rfl⟩ dL_law_1309 ?_
  rintro rv h2 ⟨rfl, iv⟩
  exact lw_eq (tgt := 2324) C dL_law_1312 (by decide) (k h2 iv)
theorem law_37 {i : Nat} (C : LwC G p s m meth c b L xs) (hi : i + 4 ≤ L) (iv : Inv h) (k : LwK G p e s m below meth c b i) : Lw G p e s m below meth c b 1317 (nI i) [] h := by
  obtain ⟨a, ok, ci, ri⟩ := iv
  refine lw_ld1 C dL_law_1317 ?_
  refine lw_arg (j := 1) C (by omega) (by decide) dL_law_1318 dL_law_1319 dL_law_1320 dL_law_1321 dL_law_1322 ?_
  refine lw_arg (j := 2) C (by omega) (by decide) dL_law_1323 dL_law_1324 dL_law_1325 dL_law_1326 dL_law_1327 ?_
  refine lw_arg (j := 3) C (by omega) (by decide) dL_law_1328 dL_law_1329 dL_law_1330 dL_law_1331 dL_law_1332 ?_
  refine lw_call (As := [.int (xs (i + 1)), .int (xs (i + 2)), .int (xs (i + 3))]) C (pr_bettiNumber (G := G) (d := 0) (x := xs (i + 1)) (y := xs (i + 2)) (z := xs (i + 3)) ok ci ri) ok_X11_bettiNumber ml_L_165 rfl rfl rfl rfl (Nat.le_of_ble_eq_true rfl) ⟨Nat.le_of_ble_eq_true rfl, Nat.le_of_ble_eq_true rfl⟩ dL_law_1333 ?_
  rintro rv h1 ⟨r, rfl, c2⟩
  refine lw_ld2 C dL_law_1336 ?_
  refine lw_arg (j := 1) C (by omega) (by decide) dL_law_1337 dL_law_1338 dL_law_1339 dL_law_1340 dL_law_1341 ?_
  refine lw_arg (j := 2) C (by omega) (by decide) dL_law_1342 dL_law_1343 dL_law_1344 dL_law_1345 dL_law_1346 ?_
  refine lw_arg (j := 3) C (by omega) (by decide) dL_law_1347 dL_law_1348 dL_law_1349 dL_law_1350 dL_law_1351 ?_
  refine lw_call (As := [.int (xs (i + 1)), .int (xs (i + 2)), .int (xs (i + 3))]) C c2 ok_X12_bettiNumber ml_L_169 rfl rfl rfl rfl (Nat.le_of_ble_eq_true rfl) ⟨Nat.le_of_ble_eq_true rfl, Nat.le_of_ble_eq_true rfl⟩ dL_law_1352 ?_
  rintro rv h2 ⟨rfl, iv⟩
  exact lw_leq (tgt := 2324) C dL_law_1355 dL_law_1356 (by decide) (k h2 iv)
theorem law_38 {i : Nat} (C : LwC G p s m meth c b L xs) (hi : i + 4 ≤ L) (iv : Inv h) (k : LwK G p e s m below meth c b i) : Lw G p e s m below meth c b 1361 (nI i) [] h := by
  obtain ⟨a, ok, ci, ri⟩ := iv
  refine lw_ld1 C dL_law_1361 ?_
  refine lw_arg (j := 1) C (by omega) (by decide) dL_law_1362 dL_law_1363 dL_law_1364 dL_law_1365 dL_law_1366 ?_
  refine lw_call (As := [.int (xs (i + 1))]) C (pr_addDegreeTest (G := G) (d := 0) (x := xs (i + 1)) (y := 0) (z := 0) ok ci ri) ok_X11_addDegreeTest ml_L_170 rfl rfl rfl rfl (Nat.le_of_ble_eq_true rfl) ⟨Nat.le_of_ble_eq_true rfl, Nat.le_of_ble_eq_true rfl⟩ dL_law_1367 ?_
  rintro rv h1 ⟨r, rfl, c2⟩
  refine lw_ld2 C dL_law_1370 ?_
  refine lw_arg (j := 1) C (by omega) (by decide) dL_law_1371 dL_law_1372 dL_law_1373 dL_law_1374 dL_law_1375 ?_
  refine lw_call (As := [.int (xs (i + 1))]) C c2 ok_X12_addDegreeTest ml_L_173 rfl rfl rfl rfl (Nat.le_of_ble_eq_true rfl) ⟨Nat.le_of_ble_eq_true rfl, Nat.le_of_ble_eq_true rfl⟩ dL_law_1376 ?_
  rintro rv h2 ⟨rfl, iv⟩
  exact lw_eq (tgt := 2324) C dL_law_1379 (by decide) (k h2 iv)
theorem law_39 {i : Nat} (C : LwC G p s m meth c b L xs) (hi : i + 4 ≤ L) (iv : Inv h) (k : LwK G p e s m below meth c b i) : Lw G p e s m below meth c b 1384 (nI i) [] h := by
  obtain ⟨a, ok, ci, ri⟩ := iv
  refine lw_ld1 C dL_law_1384 ?_
  refine lw_arg (j := 1) C (by omega) (by decide) dL_law_1385 dL_law_1386 dL_law_1387 dL_law_1388 dL_law_1389 ?_
  refine lw_arg (j := 2) C (by omega) (by decide) dL_law_1390 dL_law_1391 dL_law_1392 dL_law_1393 dL_law_1394 ?_
  refine lw_call (As := [.int (xs (i + 1)), .int (xs (i + 2))]) C (pr_addExponentTest (G := G) (d := 0) (x := xs (i + 1)) (y := xs (i + 2)) (z := 0) ok ci ri) ok_X11_addExponentTest ml_L_174 rfl rfl rfl rfl (Nat.le_of_ble_eq_true rfl) ⟨Nat.le_of_ble_eq_true rfl, Nat.le_of_ble_eq_true rfl⟩ dL_law_1395 ?_
  rintro rv h1 ⟨r, rfl, c2⟩
  refine lw_ld2 C dL_law_1398 ?_
  refine lw_arg (j := 1) C (by omega) (by decide) dL_law_1399 dL_law_1400 dL_law_1401 dL_law_1402 dL_law_1403 ?_
  refine lw_arg (j := 2) C (by omega) (by decide) dL_law_1404 dL_law_1405 dL_law_1406 dL_law_1407 dL_law_1408 ?_
  refine lw_call (As := [.int (xs (i + 1)), .int (xs (i + 2))]) C c2 ok_X12_addExponentTest ml_L_177 rfl rfl rfl rfl (Nat.le_of_ble_eq_true rfl) ⟨Nat.le_of_ble_eq_true rfl, Nat.le_of_ble_eq_true rfl⟩ dL_law_1409 ?_
  rintro rv h2 ⟨rfl, iv⟩
  exact lw_eq (tgt := 2324) C dL_law_1412 (by decide) (k h2 iv)
theorem law_40 {i : Nat} (C : LwC G p s m meth c b L xs) (hi : i + 4 ≤ L) (iv : Inv h) (k : LwK G p e s m below meth c b i) : Lw G p e s m below meth c b 1417 (nI i) [] h := by
  obtain ⟨a, ok, ci, ri⟩ := iv
  refine lw_ld1 C dL_law_1417 ?_
  refine lw_call (As := []) C (pr_addSquareFreeTest (G := G) (d := 0) (x := 0) (y := 0) (z := 0) ok ci ri) ok_X11_addSquareFreeTest ml_L_178 rfl rfl rfl rfl (Nat.le_of_ble_eq_true rfl) ⟨Nat.le_of_ble_eq_true rfl, Nat.le_of_ble_eq_true rfl⟩ dL_law_1418 ?_
  rintro rv h1 ⟨r, rfl, c2⟩
  refine lw_ld2 C dL_law_1421 ?_
  refine lw_call (As := []) C c2 ok_X12_addSquareFreeTest ml_L_181 rfl rfl rfl rfl (Nat.le_of_ble_eq_true rfl) ⟨Nat.le_of_ble_eq_true rfl, Nat.le_of_ble_eq_true rfl⟩ dL_law_1422 ?_
  rintro rv h2 ⟨rfl, iv⟩
  exact lw_eq (tgt := 2324) C dL_law_1425 (by decide) (k h2 iv)
theorem law_41 {i : Nat} (C : LwC G p s m meth c b L xs) (hi : i + 4 ≤ L) (iv : Inv h) (k : LwK G p e s m below meth c b i) : Lw G p e s m below meth c b 1430 (nI i) [] h := by
  obtain ⟨a, ok, ci, ri⟩ := iv
  refine lw_ld1 C dL_law_1430 ?_
  refine lw_arg (j := 1) C (by omega) (by decide) dL_law_1431 dL_law_1432 dL_law_1433 dL_law_1434 dL_law_1435 ?_
  refine lw_call (As := [.int (xs (i + 1))]) C (pr_addPowerTest (G := G) (d := 0) (x := xs (i + 1)) (y := 0) (z := 0) ok ci ri) ok_X11_addPowerTest ml_L_182 rfl rfl rfl rfl (Nat.le_of_ble_eq_true rfl) ⟨Nat.le_of_ble_eq_true rfl, Nat.le_of_ble_eq_true rfl⟩ dL_law_1436 ?_
  rintro rv h1 ⟨r, rfl, c2⟩
  refine lw_ld2 C dL_law_1439 ?_
  refine lw_arg (j := 1) C (by omega) (by decide) dL_law_1440 dL_law_1441 dL_law_1442 dL_law_1443 dL_law_1444 ?_
  refine lw_call (As := [.int (xs (i + 1))]) C c2 ok_X12_addPowerTest ml_L_185 rfl rfl rfl rfl (Nat.le_of_ble_eq_true rfl) ⟨Nat.le_of_ble_eq_true rfl, Nat.le_of_ble_eq_true rfl⟩ dL_law_1445 ?_
  rintro rv h2 ⟨rfl, iv⟩
  exact lw_eq (tgt := 2324) C dL_law_1448 (by decide) (k h2 iv)
theorem law_42 {i : Nat} (C : LwC G p s m meth c b L xs) (hi : i + 4 ≤ L) (iv : Inv h) (k : LwK G p e s m below meth c b i) : Lw G p e s m below meth c b 1453 (nI i) [] h := by
  obtain ⟨a, ok, ci, ri⟩ := iv
  refine lw_ld1 C dL_law_1453 ?_
  refine lw_arg (j := 1) C (by omega) (by decide) dL_law_1454 dL_law_1455 dL_law_1456 dL_law_1457 dL_law_1458 ?_
  refine lw_call (As := [.int (xs (i + 1))]) C (pr_addSymbolicTest (G := G) (d := 0) (x := xs (i + 1)) (y := 0) (z := 0) ok ci ri) ok_X11_addSymbolicTest ml_L_186 rfl rfl rfl rfl (Nat.le_of_ble_eq_true rfl) ⟨Nat.le_of_ble_eq_true rfl, Nat.le_of_ble_eq_true rfl⟩ dL_law_1459 ?_
  rintro rv h1 ⟨r, rfl, c2⟩
  refine lw_ld2 C dL_law_1462 ?_
  refine lw_arg (j := 1) C (by omega) (by decide) dL_law_1463 dL_law_1464 dL_law_1465 dL_law_1466 dL_law_1467 ?_
  refine lw_call (As := [.int (xs (i + 1))]) C c2 ok_X12_addSymbolicTest ml_L_189 rfl rfl rfl rfl (Nat.le_of_ble_eq_true rfl) ⟨Nat.le_of_ble_eq_true rfl, Nat.le_of_ble_eq_true rfl⟩ dL_law_1468 ?_
  rintro rv h2 ⟨rfl, iv⟩
  exact lw_eq (tgt := 2324) C dL_law_1471 (by decide) (k h2 iv)
theorem law_43 {i : Nat} (C : LwC G p s m meth c b L xs) (hi : i + 4 ≤ L) (iv : Inv h) (k : LwK G p e s m below meth c b i) : Lw G p e s m below meth c b 1476 (nI i) [] h := by
  obtain ⟨a, ok, ci, ri⟩ := iv
  refine lw_ld1 C dL_law_1476 ?_
  refine lw_arg (j := 1) C (by omega) (by decide) dL_law_1477 dL_law_1478 dL_law_1479 dL_law_1480 dL_law_1481 ?_
  refine lw_arg (j := 2) C (by omega) (by decide) dL_law_1482 dL_law_1483 dL_law_1484 dL_law_1485 dL_law_1486 ?_
  refine lw_call (As := [.int (xs (i + 1)), .int (xs (i + 2))]) C (pr_addAndTest (G := G) (d := 0) (x := xs (i + 1)) (y := xs (i + 2)) (z := 0) ok ci ri) ok_X11_addAndTest ml_L_190 rfl rfl rfl rfl (Nat.le_of_ble_eq_true rfl) ⟨Nat.le_of_ble_eq_true rfl, Nat.le_of_ble_eq_true rfl⟩ dL_law_1487 ?_
  rintro rv h1 ⟨r, rfl, c2⟩
  refine lw_ld2 C dL_law_1490 ?_
  refine lw_arg (j := 1) C (by omega) (by decide) dL_law_1491 dL_law_1492 dL_law_1493 dL_law_1494 dL_law_1495 ?_
  refine lw_arg (j := 2) C (by omega) (by decide) dL_law_1496 dL_law_1497 dL_law_1498 dL_law_1499 dL_law_1500 ?_
  refine lw_call (As := [.int (xs (i + 1)), .int (xs (i + 2))]) C c2 ok_X12_addAndTest ml_L_193 rfl rfl rfl rfl (Nat.le_of_ble_eq_true rfl) ⟨Nat.le_of_ble_eq_true rfl, Nat.le_of_ble_eq_true rfl⟩ dL_law_1501 ?_
  rintro rv h2 ⟨rfl, iv⟩
  exact lw_eq (tgt := 2324) C dL_law_1504 (by decide) (k h2 iv)
theorem law_44 {i : Nat} (C : LwC G p s m meth c b L xs) (hi : i + 4 ≤ L) (iv : Inv h) (k : LwK G p e s m below meth c b i) : Lw G p e s m below meth c b 1509 (nI i) [] h := by
  obtain ⟨a, ok, ci, ri⟩ := iv
  refine lw_ld1 C dL_law_1509 ?_
  refine lw_arg (j := 1) C (by omega) (by decide) dL_law_1510 dL_law_1511 dL_law_1512 dL_law_1513 dL_law_1514 ?_
  refine lw_arg (j := 2) C (by omega) (by decide) dL_law_1515 dL_law_1516 dL_law_1517 dL_law_1518 dL_law_1519 ?_
  refine lw_call (As := [.int (xs (i + 1)), .int (xs (i + 2))]) C (pr_addOrTest (G := G) (d := 0) (x := xs (i + 1)) (y := xs (i + 2)) (z := 0) ok ci ri) ok_X11_addOrTest ml_L_194 rfl rfl rfl rfl (Nat.le_of_ble_eq_true rfl) ⟨Nat.le_of_ble_eq_true rfl, Nat.le_of_ble_eq_true rfl⟩ dL_law_1520 ?_
  rintro rv h1 ⟨r, rfl, c2⟩
  refine lw_ld2 C dL_law_1523 ?_
  refine lw_arg (j := 1) C (by omega) (by decide) dL_law_1524 dL_law_1525 dL_law_1526 dL_law_1527 dL_law_1528 ?_
  refine lw_arg (j := 2) C (by omega) (by decide) dL_law_1529 dL_law_1530 dL_law_1531 dL_law_1532 dL_law_1533 ?_
  refine lw_call (As := [.int (xs (i + 1)), .int (xs (i + 2))]) C c2 ok_X12_addOrTest ml_L_197 rfl rfl rfl rfl (Nat.le_of_ble_eq_true rfl) ⟨Nat.le_of_ble_eq_true rfl, Nat.le_of_ble_eq_true rfl⟩ dL_law_1534 ?_
  rintro rv h2 ⟨rfl, iv⟩
  exact lw_eq (tgt := 2324) C dL_law_1537 (by decide) (k h2 iv)
theorem law_45 {i : Nat} (C : LwC G p s m meth c b L xs) (hi : i + 4 ≤ L) (iv : Inv h) (k : LwK G p e s m below meth c b i) : Lw G p e s m below meth c b 1542 (nI i) [] h := by
  obtain ⟨a, ok, ci, ri⟩ := iv
  refine lw_ld1 C dL_law_1542 ?_
  refine lw_arg (j := 1) C (by omega) (by decide) dL_law_1543 dL_law_1544 dL_law_1545 dL_law_1546 dL_law_1547 ?_
  refine lw_call (As := [.int (xs (i + 1))]) C (pr_addNotTest (G := G) (d := 0) (x := xs (i + 1)) (y := 0) (z := 0) ok ci ri) ok_X11_addNotTest ml_L_198 rfl rfl rfl rfl (Nat.le_of_ble_eq_true rfl) ⟨Nat.le_of_ble_eq_true rfl, Nat.le_of_ble_eq_true rfl⟩ dL_law_1548 ?_
  rintro rv h1 ⟨r, rfl, c2⟩
  refine lw_ld2 C dL_law_1551 ?_
  refine lw_arg (j := 1) C (by omega) (by decide) dL_law_1552 dL_law_1553 dL_law_1554 dL_law_1555 dL_law_1556 ?_
  refine lw_call (As := [.int (xs (i + 1))]) C c2 ok_X12_addNotTest ml_L_201 rfl rfl rfl rfl (Nat.le_of_ble_eq_true rfl) ⟨Nat.le_of_ble_eq_true rfl, Nat.le_of_ble_eq_true rfl⟩ dL_law_1557 ?_
  rintro rv h2 ⟨rfl, iv⟩
  exact lw_eq (tgt := 2324) C dL_law_1560 (by decide) (k h2 iv)
theorem law_46 {i : Nat} (C : LwC G p s m meth c b L xs) (hi : i + 4 ≤ L) (iv : Inv h) (k : LwK G p e s m below meth c b i) : Lw G p e s m below meth c b 1565 (nI i) [] h := by
  obtain ⟨a, ok, ci, ri⟩ := iv
  refine lw_ld1 C dL_law_1565 ?_
  refine lw_call (As := []) C (pr_testCount (G := G) (d := 0) (x := 0) (y := 0) (z := 0) ok ci ri) ok_X11_testCount ml_L_202 rfl rfl rfl rfl (Nat.le_of_ble_eq_true rfl) ⟨Nat.le_of_ble_eq_true rfl, Nat.le_of_ble_eq_true rfl⟩ dL_law_1566 ?_
  rintro rv h1 ⟨r, rfl, c2⟩
  refine lw_ld2 C dL_law_1569 ?_
  refine lw_call (As := []) C c2 ok_X12_testCount ml_L_205 rfl rfl rfl rfl (Nat.le_of_ble_eq_true rfl) ⟨Nat.le_of_ble_eq_true rfl, Nat.le_of_ble_eq_true rfl⟩ dL_law_1570 ?_
  rintro rv h2 ⟨rfl, iv⟩
  exact lw_eq (tgt := 2324) C dL_law_1573 (by decide) (k h2 iv)
theorem law_47 {i : Nat} (C : LwC G p s m meth c b L xs) (hi : i + 4 ≤ L) (iv : Inv h) (k : LwK G p e s m below meth c b i) : Lw G p e s m below meth c b 1578 (nI i) [] h := by
  obtain ⟨a, ok, ci, ri⟩ := iv
  refine lw_ld1 C dL_law_1578 ?_
  refine lw_arg (j := 1) C (by omega) (by decide) dL_law_1579 dL_law_1580 dL_law_1581 dL_law_1582 dL_law_1583 ?_
  refine lw_arg (j := 2) C (by omega) (by decide) dL_law_1584 dL_law_1585 dL_law_1586 dL_law_1587 dL_law_1588 ?_
  refine lw_call (As := [.int (xs (i + 1)), .int (xs (i + 2))]) C (pr_passes (G := G) (d := 0) (x := xs (i + 1)) (y := xs (i + 2)) (z := 0) ok ci ri) ok_X11_passes ml_L_206 rfl rfl rfl rfl (Nat.le_of_ble_eq_true rfl) ⟨Nat.le_of_ble_eq_true rfl, Nat.le_of_ble_eq_true rfl⟩ dL_law_1589 ?_
  rintro rv h1 ⟨r, rfl, c2⟩
  refine lw_ld2 C dL_law_1592 ?_
  refine lw_arg (j := 1) C (by omega) (by decide) dL_law_1593 dL_law_1594 dL_law_1595 dL_law_1596 dL_law_1597 ?_
  refine lw_arg (j := 2) C (by omega) (by decide) dL_law_1598 dL_law_1599 dL_law_1600 dL_law_1601 dL_law_1602 ?_
  refine lw_call (As := [.int (xs (i + 1)), .int (xs (i + 2))]) C c2 ok_X12_passes ml_L_209 rfl rfl rfl rfl (Nat.le_of_ble_eq_true rfl) ⟨Nat.le_of_ble_eq_true rfl, Nat.le_of_ble_eq_true rfl⟩ dL_law_1603 ?_
  rintro rv h2 ⟨rfl, iv⟩
  exact lw_eq (tgt := 2324) C dL_law_1606 (by decide) (k h2 iv)
theorem law_48 {i : Nat} (C : LwC G p s m meth c b L xs) (hi : i + 4 ≤ L) (iv : Inv h) (k : LwK G p e s m below meth c b i) : Lw G p e s m below meth c b 1611 (nI i) [] h := by
  obtain ⟨a, ok, ci, ri⟩ := iv
  refine lw_ld1 C dL_law_1611 ?_
  refine lw_arg (j := 1) C (by omega) (by decide) dL_law_1612 dL_law_1613 dL_law_1614 dL_law_1615 dL_law_1616 ?_
  refine lw_call (As := [.int (xs (i + 1))]) C (pr_passCount (G := G) (d := 0) (x := xs (i + 1)) (y := 0) (z := 0) ok ci ri) ok_X11_passCount ml_L_210 rfl rfl rfl rfl (Nat.le_of_ble_eq_true rfl) ⟨Nat.le_of_ble_eq_true rfl, Nat.le_of_ble_eq_true rfl⟩ dL_law_1617 ?_
  rintro rv h1 ⟨r, rfl, c2⟩
  refine lw_ld2 C dL_law_1620 ?_
  refine lw_arg (j := 1) C (by omega) (by decide) dL_law_1621 dL_law_1622 dL_law_1623 dL_law_1624 dL_law_1625 ?_
  refine lw_call (As := [.int (xs (i + 1))]) C c2 ok_X12_passCount ml_L_213 rfl rfl rfl rfl (Nat.le_of_ble_eq_true rfl) ⟨Nat.le_of_ble_eq_true rfl, Nat.le_of_ble_eq_true rfl⟩ dL_law_1626 ?_
  rintro rv h2 ⟨rfl, iv⟩
  exact lw_eq (tgt := 2324) C dL_law_1629 (by decide) (k h2 iv)
theorem law_49 {i : Nat} (C : LwC G p s m meth c b L xs) (hi : i + 4 ≤ L) (iv : Inv h) (k : LwK G p e s m below meth c b i) : Lw G p e s m below meth c b 1634 (nI i) [] h := by
  obtain ⟨a, ok, ci, ri⟩ := iv
  refine lw_ld1 C dL_law_1634 ?_
  refine lw_arg (j := 1) C (by omega) (by decide) dL_law_1635 dL_law_1636 dL_law_1637 dL_law_1638 dL_law_1639 ?_
  refine lw_arg (j := 2) C (by omega) (by decide) dL_law_1640 dL_law_1641 dL_law_1642 dL_law_1643 dL_law_1644 ?_
  refine lw_call (As := [.int (xs (i + 1)), .int (xs (i + 2))]) C (pr_passing (G := G) (d := 0) (x := xs (i + 1)) (y := xs (i + 2)) (z := 0) ok ci ri) ok_X11_passing ml_L_214 rfl rfl rfl rfl (Nat.le_of_ble_eq_true rfl) ⟨Nat.le_of_ble_eq_true rfl, Nat.le_of_ble_eq_true rfl⟩ dL_law_1645 ?_
  rintro rv h1 ⟨r, rfl, c2⟩
  refine lw_ld2 C dL_law_1648 ?_
  refine lw_arg (j := 1) C (by omega) (by decide) dL_law_1649 dL_law_1650 dL_law_1651 dL_law_1652 dL_law_1653 ?_
  refine lw_arg (j := 2) C (by omega) (by decide) dL_law_1654 dL_law_1655 dL_law_1656 dL_law_1657 dL_law_1658 ?_
  refine lw_call (As := [.int (xs (i + 1)), .int (xs (i + 2))]) C c2 ok_X12_passing ml_L_217 rfl rfl rfl rfl (Nat.le_of_ble_eq_true rfl) ⟨Nat.le_of_ble_eq_true rfl, Nat.le_of_ble_eq_true rfl⟩ dL_law_1659 ?_
  rintro rv h2 ⟨rfl, iv⟩
  exact lw_eq (tgt := 2324) C dL_law_1662 (by decide) (k h2 iv)
theorem law_50 {i : Nat} (C : LwC G p s m meth c b L xs) (hi : i + 4 ≤ L) (iv : Inv h) (k : LwK G p e s m below meth c b i) : Lw G p e s m below meth c b 1667 (nI i) [] h := by
  obtain ⟨a, ok, ci, ri⟩ := iv
  refine lw_ld1 C dL_law_1667 ?_
  refine lw_arg (j := 1) C (by omega) (by decide) dL_law_1668 dL_law_1669 dL_law_1670 dL_law_1671 dL_law_1672 ?_
  refine lw_call (As := [.int (xs (i + 1))]) C (pr_append (G := G) (d := 0) (x := xs (i + 1)) (y := 0) (z := 0) ok ci ri) ok_X11_append ml_L_218 rfl rfl rfl rfl (Nat.le_of_ble_eq_true rfl) ⟨Nat.le_of_ble_eq_true rfl, Nat.le_of_ble_eq_true rfl⟩ dL_law_1673 ?_
  rintro rv h1 ⟨r, rfl, c2⟩
  refine lw_ld2 C dL_law_1676 ?_
  refine lw_arg (j := 1) C (by omega) (by decide) dL_law_1677 dL_law_1678 dL_law_1679 dL_law_1680 dL_law_1681 ?_
  refine lw_call (As := [.int (xs (i + 1))]) C c2 ok_X12_append ml_L_221 rfl rfl rfl rfl (Nat.le_of_ble_eq_true rfl) ⟨Nat.le_of_ble_eq_true rfl, Nat.le_of_ble_eq_true rfl⟩ dL_law_1682 ?_
  rintro rv h2 ⟨rfl, iv⟩
  exact lw_eq (tgt := 2324) C dL_law_1685 (by decide) (k h2 iv)
theorem law_51 {i : Nat} (C : LwC G p s m meth c b L xs) (hi : i + 4 ≤ L) (iv : Inv h) (k : LwK G p e s m below meth c b i) : Lw G p e s m below meth c b 1690 (nI i) [] h := by
  obtain ⟨a, ok, ci, ri⟩ := iv
  refine lw_ld1 C dL_law_1690 ?_
  refine lw_arg (j := 1) C (by omega) (by decide) dL_law_1691 dL_law_1692 dL_law_1693 dL_law_1694 dL_law_1695 ?_
  refine lw_call (As := [.int (xs (i + 1))]) C (pr_fillWithGenerators (G := G) (d := 0) (x := xs (i + 1)) (y := 0) (z := 0) ok ci ri) ok_X11_fillWithGenerators ml_L_222 rfl rfl rfl rfl (Nat.le_of_ble_eq_true rfl) ⟨Nat.le_of_ble_eq_true rfl, Nat.le_of_ble_eq_true rfl⟩ dL_law_1696 ?_
  rintro rv h1 ⟨r, rfl, c2⟩
  refine lw_ld2 C dL_law_1699 ?_
  refine lw_arg (j := 1) C (by omega) (by decide) dL_law_1700 dL_law_1701 dL_law_1702 dL_law_1703 dL_law_1704 ?_
  refine lw_call (As := [.int (xs (i + 1))]) C c2 ok_X12_fillWithGenerators ml_L_225 rfl rfl rfl rfl (Nat.le_of_ble_eq_true rfl) ⟨Nat.le_of_ble_eq_true rfl, Nat.le_of_ble_eq_true rfl⟩ dL_law_1705 ?_
  rintro rv h2 ⟨rfl, iv⟩
  exact lw_eq (tgt := 2324) C dL_law_1708 (by decide) (k h2 iv)
theorem law_52 {i : Nat} (C : LwC G p s m meth c b L xs) (hi : i + 4 ≤ L) (iv : Inv h) (k : LwK G p e s m below meth c b i) : Lw G p e s m below meth c b 1713 (nI i) [] h := by
  obtain ⟨a, ok, ci, ri⟩ := iv
  refine lw_ld1 C dL_law_1713 ?_
  refine lw_arg (j := 1) C (by omega) (by decide) dL_law_1714 dL_law_1715 dL_law_1716 dL_law_1717 dL_law_1718 ?_
  refine lw_call (As := [.int (xs (i + 1))]) C (pr_fillWithSymbolicGenerators (G := G) (d := 0) (x := xs (i + 1)) (y := 0) (z := 0) ok ci ri) ok_X11_fillWithSymbolicGenerators ml_L_226 rfl rfl rfl rfl (Nat.le_of_ble_eq_true rfl) ⟨Nat.le_of_ble_eq_true rfl, Nat.le_of_ble_eq_true rfl⟩ dL_law_1719 ?_
  rintro rv h1 ⟨r, rfl, c2⟩
  refine lw_ld2 C dL_law_1722 ?_
  refine lw_arg (j := 1) C (by omega) (by decide) dL_law_1723 dL_law_1724 dL_law_1725 dL_law_1726 dL_law_1727 ?_
  refine lw_call (As := [.int (xs (i + 1))]) C c2 ok_X12_fillWithSymbolicGenerators ml_L_229 rfl rfl rfl rfl (Nat.le_of_ble_eq_true rfl) ⟨Nat.le_of_ble_eq_true rfl, Nat.le_of_ble_eq_true rfl⟩ dL_law_1728 ?_
  rintro rv h2 ⟨rfl, iv⟩
  exact lw_eq (tgt := 2324) C dL_law_1731 (by decide) (k h2 iv)
theorem law_53 {i : Nat} (C : LwC G p s m meth c b L xs) (hi : i + 4 ≤ L) (iv : Inv h) (k : LwK G p e s m below meth c b i) : Lw G p e s m below meth c b 1736 (nI i) [] h := by
  obtain ⟨a, ok, ci, ri⟩ := iv
  refine lw_ld1 C dL_law_1736 ?_
  refine lw_call (As := []) C (pr_listSize (G := G) (d := 0) (x := 0) (y := 0) (z := 0) ok ci ri) ok_X11_listSize ml_L_230 rfl rfl rfl rfl (Nat.le_of_ble_eq_true rfl) ⟨Nat.le_of_ble_eq_true rfl, Nat.le_of_ble_eq_true rfl⟩ dL_law_1737 ?_
  rintro rv h1 ⟨r, rfl, c2⟩
  refine lw_ld2 C dL_law_1740 ?_
  refine lw_call (As := []) C c2 ok_X12_listSize ml_L_233 rfl rfl rfl rfl (Nat.le_of_ble_eq_true rfl) ⟨Nat.le_of_ble_eq_true rfl, Nat.le_of_ble_eq_true rfl⟩ dL_law_1741 ?_
  rintro rv h2 ⟨rfl, iv⟩
  exact lw_eq (tgt := 2324) C dL_law_1744 (by decide) (k h2 iv)
theorem law_54 {i : Nat} (C : LwC G p s m meth c b L xs) (hi : i + 4 ≤ L) (iv : Inv h) (k : LwK G p e s m below meth c b i) : Lw G p e s m below meth c b 1749 (nI i) [] h := by
  obtain ⟨a, ok, ci, ri⟩ := iv
  refine lw_ld1 C dL_law_1749 ?_
  refine lw_arg (j := 1) C (by omega) (by decide) dL_law_1750 dL_law_1751 dL_law_1752 dL_law_1753 dL_law_1754 ?_
  refine lw_call (As := [.int (xs (i + 1))]) C (pr_element (G := G) (d := 0) (x := xs (i + 1)) (y := 0) (z := 0) ok ci ri) ok_X11_element ml_L_234 rfl rfl rfl rfl (Nat.le_of_ble_eq_true rfl) ⟨Nat.le_of_ble_eq_true rfl, Nat.le_of_ble_eq_true rfl⟩ dL_law_1755 ?_
  rintro rv h1 ⟨r, rfl, c2⟩
  refine lw_ld2 C dL_law_1758 ?_
  refine lw_arg (j := 1) C (by omega) (by decide) dL_law_1759 dL_law_1760 dL_law_1761 dL_law_1762 dL_law_1763 ?_
  refine lw_call (As := [.int (xs (i + 1))]) C c2 ok_X12_element ml_L_237 rfl rfl rfl rfl (Nat.le_of_ble_eq_true rfl) ⟨Nat.le_of_ble_eq_true rfl, Nat.le_of_ble_eq_true rfl⟩ dL_law_1764 ?_
  rintro rv h2 ⟨rfl, iv⟩
  exact lw_eq (tgt := 2324) C dL_law_1767 (by decide) (k h2 iv)
theorem law_55 {i : Nat} (C : LwC G p s m meth c b L xs) (hi : i + 4 ≤ L) (iv : Inv h) (k : LwK G p e s m below meth c b i) : Lw G p e s m below meth c b 1772 (nI i) [] h := by
  obtain ⟨a, ok, ci, ri⟩ := iv
  refine lw_ld1 C dL_law_1772 ?_
  refine lw_call (As := []) C (pr_clearList (G := G) (d := 0) (x := 0) (y := 0) (z := 0) ok ci ri) ok_X11_clearList ml_L_238 rfl rfl rfl rfl (Nat.le_of_ble_eq_true rfl) ⟨Nat.le_of_ble_eq_true rfl, Nat.le_of_ble_eq_true rfl⟩ dL_law_1773 ?_
  rintro rv h1 ⟨r, rfl, c2⟩
  refine lw_ld2 C dL_law_1776 ?_
  refine lw_call (As := []) C c2 ok_X12_clearList ml_L_241 rfl rfl rfl rfl (Nat.le_of_ble_eq_true rfl) ⟨Nat.le_of_ble_eq_true rfl, Nat.le_of_ble_eq_true rfl⟩ dL_law_1777 ?_
  rintro rv h2 ⟨rfl, iv⟩
  exact lw_eq (tgt := 2324) C dL_law_1780 (by decide) (k h2 iv)
theorem law_56 {i : Nat} (C : LwC G p s m meth c b L xs) (hi : i + 4 ≤ L) (iv : Inv h) (k : LwK G p e s m below meth c b i) : Lw G p e s m below meth c b 1785 (nI i) [] h := by
  obtain ⟨a, ok, ci, ri⟩ := iv
  refine lw_ld1 C dL_law_1785 ?_
  refine lw_call (As := []) C (pr_minimizeList (G := G) (d := 0) (x := 0) (y := 0) (z := 0) ok ci ri) ok_X11_minimizeList ml_L_242 rfl rfl rfl rfl (Nat.le_of_ble_eq_true rfl) ⟨Nat.le_of_ble_eq_true rfl, Nat.le_of_ble_eq_true rfl⟩ dL_law_1786 ?_
  rintro rv h1 ⟨r, rfl, c2⟩
  refine lw_ld2 C dL_law_1789 ?_
  refine lw_call (As := []) C c2 ok_X12_minimizeList ml_L_245 rfl rfl rfl rfl (Nat.le_of_ble_eq_true rfl) ⟨Nat.le_of_ble_eq_true rfl, Nat.le_of_ble_eq_true rfl⟩ dL_law_1790 ?_
  rintro rv h2 ⟨rfl, iv⟩
  exact lw_eq (tgt := 2324) C dL_law_1793 (by decide) (k h2 iv)
theorem law_57 {i : Nat} (C : LwC G p s m meth c b L xs) (hi : i + 4 ≤ L) (iv : Inv h) (k : LwK G p e s m below meth c b i) : Lw G p e s m below meth c b 1798 (nI i) [] h := by
  obtain ⟨a, ok, ci, ri⟩ := iv
  refine lw_ld1 C dL_law_1798 ?_
  refine lw_arg (j := 1) C (by omega) (by decide) dL_law_1799 dL_law_1800 dL_law_1801 dL_law_1802 dL_law_1803 ?_
  refine lw_call (As := [.int (xs (i + 1))]) C (pr_divideListBy (G := G) (d := 0) (x := xs (i + 1)) (y := 0) (z := 0) ok ci ri) ok_X11_divideListBy ml_L_246 rfl rfl rfl rfl (Nat.le_of_ble_eq_true rfl) ⟨Nat.le_of_ble_eq_true rfl, Nat.le_of_ble_eq_true rfl⟩ dL_law_1804 ?_
  rintro rv h1 ⟨r, rfl, c2⟩
  refine lw_ld2 C dL_law_1807 ?_
  refine lw_arg (j := 1) C (by omega) (by decide) dL_law_1808 dL_law_1809 dL_law_1810 dL_law_1811 dL_law_1812 ?_
  refine lw_call (As := [.int (xs (i + 1))]) C c2 ok_X12_divideListBy ml_L_249 rfl rfl rfl rfl (Nat.le_of_ble_eq_true rfl) ⟨Nat.le_of_ble_eq_true rfl, Nat.le_of_ble_eq_true rfl⟩ dL_law_1813 ?_
  rintro rv h2 ⟨rfl, iv⟩
  exact lw_eq (tgt := 2324) C dL_law_1816 (by decide) (k h2 iv)
theorem law_58 {i : Nat} (C : LwC G p s m meth c b L xs) (hi : i + 4 ≤ L) (iv : Inv h) (k : LwK G p e s m below meth c b i) : Lw G p e s m below meth c b 1821 (nI i) [] h := by
  obtain ⟨a, ok, ci, ri⟩ := iv
  refine lw_ld1 C dL_law_1821 ?_
  refine lw_call (As := []) C (pr_reverseList (G := G) (d := 0) (x := 0) (y := 0) (z := 0) ok ci ri) ok_X11_reverseList ml_L_250 rfl rfl rfl rfl (Nat.le_of_ble_eq_true rfl) ⟨Nat.le_of_ble_eq_true rfl, Nat.le_of_ble_eq_true rfl⟩ dL_law_1822 ?_
  rintro rv h1 ⟨r, rfl, c2⟩
  refine lw_ld2 C dL_law_1825 ?_
  refine lw_call (As := []) C c2 ok_X12_reverseList ml_L_253 rfl rfl rfl rfl (Nat.le_of_ble_eq_true rfl) ⟨Nat.le_of_ble_eq_true rfl, Nat.le_of_ble_eq_true rfl⟩ dL_law_1826 ?_
  rintro rv h2 ⟨rfl, iv⟩
  exact lw_eq (tgt := 2324) C dL_law_1829 (by decide) (k h2 iv)
theorem law_59 {i : Nat} (C : LwC G p s m meth c b L xs) (hi : i + 4 ≤ L) (iv : Inv h) (k : LwK G p e s m below meth c b i) : Lw G p e s m below meth c b 1834 (nI i) [] h := by
  obtain ⟨a, ok, ci, ri⟩ := iv
  refine lw_ld1 C dL_law_1834 ?_
  refine lw_arg (j := 1) C (by omega) (by decide) dL_law_1835 dL_law_1836 dL_law_1837 dL_law_1838 dL_law_1839 ?_
  refine lw_call (As := [.int (xs (i + 1))]) C (pr_rotateList (G := G) (d := 0) (x := xs (i + 1)) (y := 0) (z := 0) ok ci ri) ok_X11_rotateList ml_L_254 rfl rfl rfl rfl (Nat.le_of_ble_eq_true rfl) ⟨Nat.le_of_ble_eq_true rfl, Nat.le_of_ble_eq_true rfl⟩ dL_law_1840 ?_
  rintro rv h1 ⟨r, rfl, c2⟩
  refine lw_ld2 C dL_law_1843 ?_
  refine lw_arg (j := 1) C (by omega) (by decide) dL_law_1844 dL_law_1845 dL_law_1846 dL_law_1847 dL_law_1848 ?_
  refine lw_call (As := [.int (xs (i + 1))]) C c2 ok_X12_rotateList ml_L_257 rfl rfl rfl rfl (Nat.le_of_ble_eq_true rfl) ⟨Nat.le_of_ble_eq_true rfl, Nat.le_of_ble_eq_true rfl⟩ dL_law_1849 ?_
  rintro rv h2 ⟨rfl, iv⟩
  exact lw_eq (tgt := 2324) C dL_law_1852 (by decide) (k h2 iv)
theorem law_60 {i : Nat} (C : LwC G p s m meth c b L xs) (hi : i + 4 ≤ L) (iv : Inv h) (k : LwK G p e s m below meth c b i) : Lw G p e s m below meth c b 1857 (nI i) [] h := by
  obtain ⟨a, ok, ci, ri⟩ := iv
  refine lw_ld1 C dL_law_1857 ?_
  refine lw_arg (j := 1) C (by omega) (by decide) dL_law_1858 dL_law_1859 dL_law_1860 dL_law_1861 dL_law_1862 ?_
  refine lw_arg (j := 2) C (by omega) (by decide) dL_law_1863 dL_law_1864 dL_law_1865 dL_law_1866 dL_law_1867 ?_
  refine lw_call (As := [.int (xs (i + 1)), .int (xs (i + 2))]) C (pr_swapElements (G := G) (d := 0) (x := xs (i + 1)) (y := xs (i + 2)) (z := 0) ok ci ri) ok_X11_swapElements ml_L_258 rfl rfl rfl rfl (Nat.le_of_ble_eq_true rfl) ⟨Nat.le_of_ble_eq_true rfl, Nat.le_of_ble_eq_true rfl⟩ dL_law_1868 ?_
  rintro rv h1 ⟨r, rfl, c2⟩
  refine lw_ld2 C dL_law_1871 ?_
  refine lw_arg (j := 1) C (by omega) (by decide) dL_law_1872 dL_law_1873 dL_law_1874 dL_law_1875 dL_law_1876 ?_
  refine lw_arg (j := 2) C (by omega) (by decide) dL_law_1877 dL_law_1878 dL_law_1879 dL_law_1880 dL_law_1881 ?_
  refine lw_call (As := [.int (xs (i + 1)), .int (xs (i + 2))]) C c2 ok_X12_swapElements ml_L_261 rfl rfl rfl rfl (Nat.le_of_ble_eq_true rfl) ⟨Nat.le_of_ble_eq_true rfl, Nat.le_of_ble_eq_true rfl⟩ dL_law_1882 ?_
  rintro rv h2 ⟨rfl, iv⟩
  exact lw_eq (tgt := 2324) C dL_law_1885 (by decide) (k h2 iv)
theorem law_61 {i : Nat} (C : LwC G p s m meth c b L xs) (hi : i + 4 ≤ L) (iv : Inv h) (k : LwK G p e s m below meth c b i) : Lw G p e s m below meth c b 1890 (nI i) [] h := by
  obtain ⟨a, ok, ci, ri⟩ := iv
  refine lw_ld1 C dL_law_1890 ?_
  refine lw_arg (j := 1) C (by omega) (by decide) dL_law_1891 dL_law_1892 dL_law_1893 dL_law_1894 dL_law_1895 ?_
  refine lw_call (As := [.int (xs (i + 1))]) C (pr_indexOfDivisor (G := G) (d := 0) (x := xs (i + 1)) (y := 0) (z := 0) ok ci ri) ok_X11_indexOfDivisor ml_L_262 rfl rfl rfl rfl (Nat.le_of_ble_eq_true rfl) ⟨Nat.le_of_ble_eq_true rfl, Nat.le_of_ble_eq_true rfl⟩ dL_law_1896 ?_
  rintro rv h1 ⟨r, rfl, c2⟩
  refine lw_ld2 C dL_law_1899 ?_
  refine lw_arg (j := 1) C (by omega) (by decide) dL_law_1900 dL_law_1901 dL_law_1902 dL_law_1903 dL_law_1904 ?_
  refine lw_call (As := [.int (xs (i + 1))]) C c2 ok_X12_indexOfDivisor ml_L_265 rfl rfl rfl rfl (Nat.le_of_ble_eq_true rfl) ⟨Nat.le_of_ble_eq_true rfl, Nat.le_of_ble_eq_true rfl⟩ dL_law_1905 ?_
  rintro rv h2 ⟨rfl, iv⟩
  exact lw_eq (tgt := 2324) C dL_law_1908 (by decide) (k h2 iv)
theorem law_62 {i : Nat} (C : LwC G p s m meth c b L xs) (hi : i + 4 ≤ L) (iv : Inv h) (k : LwK G p e s m below meth c b i) : Lw G p e s m below meth c b 1913 (nI i) [] h := by
  obtain ⟨a, ok, ci, ri⟩ := iv
  refine lw_ld1 C dL_law_1913 ?_
  refine lw_call (As := []) C (pr_polarizedVariableCount (G := G) (d := 0) (x := 0) (y := 0) (z := 0) ok ci ri) ok_X11_polarizedVariableCount ml_L_266 rfl rfl rfl rfl (Nat.le_of_ble_eq_true rfl) ⟨Nat.le_of_ble_eq_true rfl, Nat.le_of_ble_eq_true rfl⟩ dL_law_1914 ?_
  rintro rv h1 ⟨r, rfl, c2⟩
  refine lw_ld2 C dL_law_1917 ?_
  refine lw_call (As := []) C c2 ok_X12_polarizedVariableCount ml_L_269 rfl rfl rfl rfl (Nat.le_of_ble_eq_true rfl) ⟨Nat.le_of_ble_eq_true rfl, Nat.le_of_ble_eq_true rfl⟩ dL_law_1918 ?_
  rintro rv h2 ⟨rfl, iv⟩
  exact lw_eq (tgt := 2324) C dL_law_1921 (by decide) (k h2 iv)
theorem law_63 {i : Nat} (C : LwC G p s m meth c b L xs) (hi : i + 4 ≤ L) (iv : Inv h) (k : LwK G p e s m below meth c b i) : Lw G p e s m below meth c b 1926 (nI i) [] h := by
  obtain ⟨a, ok, ci, ri⟩ := iv
  refine lw_ld1 C dL_law_1926 ?_
  refine lw_arg (j := 1) C (by omega) (by decide) dL_law_1927 dL_law_1928 dL_law_1929 dL_law_1930 dL_law_1931 ?_
  refine lw_call (As := [.int (xs (i + 1))]) C (pr_polarized (G := G) (d := 0) (x := xs (i + 1)) (y := 0) (z := 0) ok ci ri) ok_X11_polarized ml_L_270 rfl rfl rfl rfl (Nat.le_of_ble_eq_true rfl) ⟨Nat.le_of_ble_eq_true rfl, Nat.le_of_ble_eq_true rfl⟩ dL_law_1932 ?_
  rintro rv h1 ⟨r, rfl, c2⟩
  refine lw_ld2 C dL_law_1935 ?_
  refine lw_arg (j := 1) C (by omega) (by decide) dL_law_1936 dL_law_1937 dL_law_1938 dL_law_1939 dL_law_1940 ?_
  refine lw_call (As := [.int (xs (i + 1))]) C c2 ok_X12_polarized ml_L_273 rfl rfl rfl rfl (Nat.le_of_ble_eq_true rfl) ⟨Nat.le_of_ble_eq_true rfl, Nat.le_of_ble_eq_true rfl⟩ dL_law_1941 ?_
  rintro rv h2 ⟨rfl, iv⟩
  exact lw_eq (tgt := 2324) C dL_law_1944 (by decide) (k h2 iv)
theorem law_64 {i : Nat} (C : LwC G p s m meth c b L xs) (hi : i + 4 ≤ L) (iv : Inv h) (k : LwK G p e s m below meth c b i) : Lw G p e s m below meth c b 1949 (nI i) [] h := by
  obtain ⟨a, ok, ci, ri⟩ := iv
  refine lw_ld1 C dL_law_1949 ?_
  refine lw_call (As := []) C (pr_hittingNumber (G := G) (d := 0) (x := 0) (y := 0) (z := 0) ok ci ri) ok_X11_hittingNumber ml_L_274 rfl rfl rfl rfl (Nat.le_of_ble_eq_true rfl) ⟨Nat.le_of_ble_eq_true rfl, Nat.le_of_ble_eq_true rfl⟩ dL_law_1950 ?_
  rintro rv h1 ⟨r, rfl, c2⟩
  refine lw_ld2 C dL_law_1953 ?_
  refine lw_call (As := []) C c2 ok_X12_hittingNumber ml_L_277 rfl rfl rfl rfl (Nat.le_of_ble_eq_true rfl) ⟨Nat.le_of_ble_eq_true rfl, Nat.le_of_ble_eq_true rfl⟩ dL_law_1954 ?_
  rintro rv h2 ⟨rfl, iv⟩
  exact lw_eq (tgt := 2324) C dL_law_1957 (by decide) (k h2 iv)
theorem law_65 {i : Nat} (C : LwC G p s m meth c b L xs) (hi : i + 4 ≤ L) (iv : Inv h) (k : LwK G p e s m below meth c b i) : Lw G p e s m below meth c b 1962 (nI i) [] h := by
  obtain ⟨a, ok, ci, ri⟩ := iv
  refine lw_ld1 C dL_law_1962 ?_
  refine lw_arg (j := 1) C (by omega) (by decide) dL_law_1963 dL_law_1964 dL_law_1965 dL_law_1966 dL_law_1967 ?_
  refine lw_call (As := [.int (xs (i + 1))]) C (pr_feed (G := G) (d := 0) (x := xs (i + 1)) (y := 0) (z := 0) ok ci ri) ok_X11_feed ml_L_278 rfl rfl rfl rfl (Nat.le_of_ble_eq_true rfl) ⟨Nat.le_of_ble_eq_true rfl, Nat.le_of_ble_eq_true rfl⟩ dL_law_1968 ?_
  rintro rv h1 ⟨r, rfl, c2⟩
  refine lw_ld2 C dL_law_1971 ?_
  refine lw_arg (j := 1) C (by omega) (by decide) dL_law_1972 dL_law_1973 dL_law_1974 dL_law_1975 dL_law_1976 ?_
  refine lw_call (As := [.int (xs (i + 1))]) C c2 ok_X12_feed ml_L_281 rfl rfl rfl rfl (Nat.le_of_ble_eq_true rfl) ⟨Nat.le_of_ble_eq_true rfl, Nat.le_of_ble_eq_true rfl⟩ dL_law_1977 ?_
  rintro rv h2 ⟨rfl, iv⟩
  exact lw_eq (tgt := 2324) C dL_law_1980 (by decide) (k h2 iv)
theorem law_66 {i : Nat} (C : LwC G p s m meth c b L xs) (hi : i + 4 ≤ L) (iv : Inv h) (k : LwK G p e s m below meth c b i) : Lw G p e s m below meth c b 1985 (nI i) [] h := by
  obtain ⟨a, ok, ci, ri⟩ := iv
  refine lw_ld1 C dL_law_1985 ?_
  refine lw_call (As := []) C (pr_discardInput (G := G) (d := 0) (x := 0) (y := 0) (z := 0) ok ci ri) ok_X11_discardInput ml_L_282 rfl rfl rfl rfl (Nat.le_of_ble_eq_true rfl) ⟨Nat.le_of_ble_eq_true rfl, Nat.le_of_ble_eq_true rfl⟩ dL_law_1986 ?_
  rintro rv h1 ⟨r, rfl, c2⟩
  refine lw_ld2 C dL_law_1989 ?_
  refine lw_call (As := []) C c2 ok_X12_discardInput ml_L_285 rfl rfl rfl rfl (Nat.le_of_ble_eq_true rfl) ⟨Nat.le_of_ble_eq_true rfl, Nat.le_of_ble_eq_true rfl⟩ dL_law_1990 ?_
  rintro rv h2 ⟨rfl, iv⟩
  exact lw_eq (tgt := 2324) C dL_law_1993 (by decide) (k h2 iv)
theorem law_67 {i : Nat} (C : LwC G p s m meth c b L xs) (hi : i + 4 ≤ L) (iv : Inv h) (k : LwK G p e s m below meth c b i) : Lw G p e s m below meth c b 1998 (nI i) [] h := by
  obtain ⟨a, ok, ci, ri⟩ := iv
  refine lw_ld1 C dL_law_1998 ?_
  refine lw_call (As := []) C (pr_parse (G := G) (d := 0) (x := 0) (y := 0) (z := 0) ok ci ri) ok_X11_parse ml_L_286 rfl rfl rfl rfl (Nat.le_of_ble_eq_true rfl) ⟨Nat.le_of_ble_eq_true rfl, Nat.le_of_ble_eq_true rfl⟩ dL_law_1999 ?_
  rintro rv h1 ⟨r, rfl, c2⟩
  refine lw_ld2 C dL_law_2002 ?_
  refine lw_call (As := []) C c2 ok_X12_parse ml_L_289 rfl rfl rfl rfl (Nat.le_of_ble_eq_true rfl) ⟨Nat.le_of_ble_eq_true rfl, Nat.le_of_ble_eq_true rfl⟩ dL_law_2003 ?_
  rintro rv h2 ⟨rfl, iv⟩
  exact lw_eq (tgt := 2324) C dL_law_2006 (by decide) (k h2 iv)
theorem law_68 {i : Nat} (C : LwC G p s m meth c b L xs) (hi : i + 4 ≤ L) (iv : Inv h) (k : LwK G p e s m below meth c b i) : Lw G p e s m below meth c b 2011 (nI i) [] h := by
  obtain ⟨a, ok, ci, ri⟩ := iv
  refine lw_ld1 C dL_law_2011 ?_
  refine lw_call (As := []) C (pr_formattedLength (G := G) (d := 0) (x := 0) (y := 0) (z := 0) ok ci ri) ok_X11_formattedLength ml_L_290 rfl rfl rfl rfl (Nat.le_of_ble_eq_true rfl) ⟨Nat.le_of_ble_eq_true rfl, Nat.le_of_ble_eq_true rfl⟩ dL_law_2012 ?_
  rintro rv h1 ⟨r, rfl, c2⟩
  refine lw_ld2 C dL_law_2015 ?_
  refine lw_call (As := []) C c2 ok_X12_formattedLength ml_L_293 rfl rfl rfl rfl (Nat.le_of_ble_eq_true rfl) ⟨Nat.le_of_ble_eq_true rfl, Nat.le_of_ble_eq_true rfl⟩ dL_law_2016 ?_
  rintro rv h2 ⟨rfl, iv⟩
  exact lw_eq (tgt := 2324) C dL_law_2019 (by decide) (k h2 iv)
theorem law_69 {i : Nat} (C : LwC G p s m meth c b L xs) (hi : i + 4 ≤ L) (iv : Inv h) (k : LwK G p e s m below meth c b i) : Lw G p e s m below meth c b 2024 (nI i) [] h := by
  obtain ⟨a, ok, ci, ri⟩ := iv
  refine lw_ld1 C dL_law_2024 ?_
  refine lw_arg (j := 1) C (by omega) (by decide) dL_law_2025 dL_law_2026 dL_law_2027 dL_law_2028 dL_law_2029 ?_
  refine lw_call (As := [.int (xs (i + 1))]) C (pr_formattedByte (G := G) (d := 0) (x := xs (i + 1)) (y := 0) (z := 0) ok ci ri) ok_X11_formattedByte ml_L_294 rfl rfl rfl rfl (Nat.le_of_ble_eq_true rfl) ⟨Nat.le_of_ble_eq_true rfl, Nat.le_of_ble_eq_true rfl⟩ dL_law_2030 ?_
  rintro rv h1 ⟨r, rfl, c2⟩
  refine lw_ld2 C dL_law_2033 ?_
  refine lw_arg (j := 1) C (by omega) (by decide) dL_law_2034 dL_law_2035 dL_law_2036 dL_law_2037 dL_law_2038 ?_
  refine lw_call (As := [.int (xs (i + 1))]) C c2 ok_X12_formattedByte ml_L_297 rfl rfl rfl rfl (Nat.le_of_ble_eq_true rfl) ⟨Nat.le_of_ble_eq_true rfl, Nat.le_of_ble_eq_true rfl⟩ dL_law_2039 ?_
  rintro rv h2 ⟨rfl, iv⟩
  exact lw_eq (tgt := 2324) C dL_law_2042 (by decide) (k h2 iv)
theorem law_70 {i : Nat} (C : LwC G p s m meth c b L xs) (hi : i + 4 ≤ L) (iv : Inv h) (k : LwK G p e s m below meth c b i) : Lw G p e s m below meth c b 2047 (nI i) [] h := by
  obtain ⟨a, ok, ci, ri⟩ := iv
  refine lw_ld1 C dL_law_2047 ?_
  refine lw_arg (j := 1) C (by omega) (by decide) dL_law_2048 dL_law_2049 dL_law_2050 dL_law_2051 dL_law_2052 ?_
  refine lw_call (As := [.int (xs (i + 1))]) C (pr_saveList (G := G) (d := 0) (x := xs (i + 1)) (y := 0) (z := 0) ok ci ri) ok_X11_saveList ml_L_298 rfl rfl rfl rfl (Nat.le_of_ble_eq_true rfl) ⟨Nat.le_of_ble_eq_true rfl, Nat.le_of_ble_eq_true rfl⟩ dL_law_2053 ?_
  rintro rv h1 ⟨r, rfl, c2⟩
  refine lw_ld2 C dL_law_2056 ?_
  refine lw_arg (j := 1) C (by omega) (by decide) dL_law_2057 dL_law_2058 dL_law_2059 dL_law_2060 dL_law_2061 ?_
  refine lw_call (As := [.int (xs (i + 1))]) C c2 ok_X12_saveList ml_L_301 rfl rfl rfl rfl (Nat.le_of_ble_eq_true rfl) ⟨Nat.le_of_ble_eq_true rfl, Nat.le_of_ble_eq_true rfl⟩ dL_law_2062 ?_
  rintro rv h2 ⟨rfl, iv⟩
  exact lw_eq (tgt := 2324) C dL_law_2065 (by decide) (k h2 iv)
theorem law_71 {i : Nat} (C : LwC G p s m meth c b L xs) (hi : i + 4 ≤ L) (iv : Inv h) (k : LwK G p e s m below meth c b i) : Lw G p e s m below meth c b 2070 (nI i) [] h := by
  obtain ⟨a, ok, ci, ri⟩ := iv
  refine lw_ld1 C dL_law_2070 ?_
  refine lw_arg (j := 1) C (by omega) (by decide) dL_law_2071 dL_law_2072 dL_law_2073 dL_law_2074 dL_law_2075 ?_
  refine lw_call (As := [.int (xs (i + 1))]) C (pr_loadList (G := G) (d := 0) (x := xs (i + 1)) (y := 0) (z := 0) ok ci ri) ok_X11_loadList ml_L_302 rfl rfl rfl rfl (Nat.le_of_ble_eq_true rfl) ⟨Nat.le_of_ble_eq_true rfl, Nat.le_of_ble_eq_true rfl⟩ dL_law_2076 ?_
  rintro rv h1 ⟨r, rfl, c2⟩
  refine lw_ld2 C dL_law_2079 ?_
  refine lw_arg (j := 1) C (by omega) (by decide) dL_law_2080 dL_law_2081 dL_law_2082 dL_law_2083 dL_law_2084 ?_
  refine lw_call (As := [.int (xs (i + 1))]) C c2 ok_X12_loadList ml_L_305 rfl rfl rfl rfl (Nat.le_of_ble_eq_true rfl) ⟨Nat.le_of_ble_eq_true rfl, Nat.le_of_ble_eq_true rfl⟩ dL_law_2085 ?_
  rintro rv h2 ⟨rfl, iv⟩
  exact lw_eq (tgt := 2324) C dL_law_2088 (by decide) (k h2 iv)
theorem law_72 {i : Nat} (C : LwC G p s m meth c b L xs) (hi : i + 4 ≤ L) (iv : Inv h) (k : LwK G p e s m below meth c b i) : Lw G p e s m below meth c b 2093 (nI i) [] h := by
  obtain ⟨a, ok, ci, ri⟩ := iv
  refine lw_ld1 C dL_law_2093 ?_
  refine lw_arg (j := 1) C (by omega) (by decide) dL_law_2094 dL_law_2095 dL_law_2096 dL_law_2097 dL_law_2098 ?_
  refine lw_call (As := [.int (xs (i + 1))]) C (pr_clearSlot (G := G) (d := 0) (x := xs (i + 1)) (y := 0) (z := 0) ok ci ri) ok_X11_clearSlot ml_L_306 rfl rfl rfl rfl (Nat.le_of_ble_eq_true rfl) ⟨Nat.le_of_ble_eq_true rfl, Nat.le_of_ble_eq_true rfl⟩ dL_law_2099 ?_
  rintro rv h1 ⟨r, rfl, c2⟩
  refine lw_ld2 C dL_law_2102 ?_
  refine lw_arg (j := 1) C (by omega) (by decide) dL_law_2103 dL_law_2104 dL_law_2105 dL_law_2106 dL_law_2107 ?_
  refine lw_call (As := [.int (xs (i + 1))]) C c2 ok_X12_clearSlot ml_L_309 rfl rfl rfl rfl (Nat.le_of_ble_eq_true rfl) ⟨Nat.le_of_ble_eq_true rfl, Nat.le_of_ble_eq_true rfl⟩ dL_law_2108 ?_
  rintro rv h2 ⟨rfl, iv⟩
  exact lw_eq (tgt := 2324) C dL_law_2111 (by decide) (k h2 iv)
theorem law_73 {i : Nat} (C : LwC G p s m meth c b L xs) (hi : i + 4 ≤ L) (iv : Inv h) (k : LwK G p e s m below meth c b i) : Lw G p e s m below meth c b 2116 (nI i) [] h := by
  obtain ⟨a, ok, ci, ri⟩ := iv
  refine lw_ld1 C dL_law_2116 ?_
  refine lw_arg (j := 1) C (by omega) (by decide) dL_law_2117 dL_law_2118 dL_law_2119 dL_law_2120 dL_law_2121 ?_
  refine lw_arg (j := 2) C (by omega) (by decide) dL_law_2122 dL_law_2123 dL_law_2124 dL_law_2125 dL_law_2126 ?_
  refine lw_call (As := [.int (xs (i + 1)), .int (xs (i + 2))]) C (pr_newArray (G := G) (d := 0) (x := xs (i + 1)) (y := xs (i + 2)) (z := 0) ok ci ri) ok_X11_newArray ml_L_310 rfl rfl rfl rfl (Nat.le_of_ble_eq_true rfl) ⟨Nat.le_of_ble_eq_true rfl, Nat.le_of_ble_eq_true rfl⟩ dL_law_2127 ?_
  rintro rv h1 ⟨r, rfl, c2⟩
  refine lw_ld2 C dL_law_2130 ?_
  refine lw_arg (j := 1) C (by omega) (by decide) dL_law_2131 dL_law_2132 dL_law_2133 dL_law_2134 dL_law_2135 ?_
  refine lw_arg (j := 2) C (by omega) (by decide) dL_law_2136 dL_law_2137 dL_law_2138 dL_law_2139 dL_law_2140 ?_
  refine lw_call (As := [.int (xs (i + 1)), .int (xs (i + 2))]) C c2 ok_X12_newArray ml_L_313 rfl rfl rfl rfl (Nat.le_of_ble_eq_true rfl) ⟨Nat.le_of_ble_eq_true rfl, Nat.le_of_ble_eq_true rfl⟩ dL_law_2141 ?_
  rintro rv h2 ⟨rfl, iv⟩
  exact lw_eq (tgt := 2324) C dL_law_2144 (by decide) (k h2 iv)
theorem law_74 {i : Nat} (C : LwC G p s m meth c b L xs) (hi : i + 4 ≤ L) (iv : Inv h) (k : LwK G p e s m below meth c b i) : Lw G p e s m below meth c b 2149 (nI i) [] h := by
  obtain ⟨a, ok, ci, ri⟩ := iv
  refine lw_ld1 C dL_law_2149 ?_
  refine lw_arg (j := 1) C (by omega) (by decide) dL_law_2150 dL_law_2151 dL_law_2152 dL_law_2153 dL_law_2154 ?_
  refine lw_arg (j := 2) C (by omega) (by decide) dL_law_2155 dL_law_2156 dL_law_2157 dL_law_2158 dL_law_2159 ?_
  refine lw_arg (j := 3) C (by omega) (by decide) dL_law_2160 dL_law_2161 dL_law_2162 dL_law_2163 dL_law_2164 ?_
  refine lw_call (As := [.int (xs (i + 1)), .int (xs (i + 2)), .int (xs (i + 3))]) C (pr_setArrayElement (G := G) (d := 0) (x := xs (i + 1)) (y := xs (i + 2)) (z := xs (i + 3)) ok ci ri) ok_X11_setArrayElement ml_L_314 rfl rfl rfl rfl (Nat.le_of_ble_eq_true rfl) ⟨Nat.le_of_ble_eq_true rfl, Nat.le_of_ble_eq_true rfl⟩ dL_law_2165 ?_
  rintro rv h1 ⟨r, rfl, c2⟩
  refine lw_ld2 C dL_law_2168 ?_
  refine lw_arg (j := 1) C (by omega) (by decide) dL_law_2169 dL_law_2170 dL_law_2171 dL_law_2172 dL_law_2173 ?_
  refine lw_arg (j := 2) C (by omega) (by decide) dL_law_2174 dL_law_2175 dL_law_2176 dL_law_2177 dL_law_2178 ?_
  refine lw_arg (j := 3) C (by omega) (by decide) dL_law_2179 dL_law_2180 dL_law_2181 dL_law_2182 dL_law_2183 ?_
  refine lw_call (As := [.int (xs (i + 1)), .int (xs (i + 2)), .int (xs (i + 3))]) C c2 ok_X12_setArrayElement ml_L_317 rfl rfl rfl rfl (Nat.le_of_ble_eq_true rfl) ⟨Nat.le_of_ble_eq_true rfl, Nat.le_of_ble_eq_true rfl⟩ dL_law_2184 ?_
  rintro rv h2 ⟨rfl, iv⟩
  exact lw_eq (tgt := 2324) C dL_law_2187 (by decide) (k h2 iv)
theorem law_75 {i : Nat} (C : LwC G p s m meth c b L xs) (hi : i + 4 ≤ L) (iv : Inv h) (k : LwK G p e s m below meth c b i) : Lw G p e s m below meth c b 2192 (nI i) [] h := by
  obtain ⟨a, ok, ci, ri⟩ := iv
  refine lw_ld1 C dL_law_2192 ?_
  refine lw_arg (j := 1) C (by omega) (by decide) dL_law_2193 dL_law_2194 dL_law_2195 dL_law_2196 dL_law_2197 ?_
  refine lw_arg (j := 2) C (by omega) (by decide) dL_law_2198 dL_law_2199 dL_law_2200 dL_law_2201 dL_law_2202 ?_
  refine lw_call (As := [.int (xs (i + 1)), .int (xs (i + 2))]) C (pr_arrayElement (G := G) (d := 0) (x := xs (i + 1)) (y := xs (i + 2)) (z := 0) ok ci ri) ok_X11_arrayElement ml_L_318 rfl rfl rfl rfl (Nat.le_of_ble_eq_true rfl) ⟨Nat.le_of_ble_eq_true rfl, Nat.le_of_ble_eq_true rfl⟩ dL_law_2203 ?_
  rintro rv h1 ⟨r, rfl, c2⟩
  refine lw_ld2 C dL_law_2206 ?_
  refine lw_arg (j := 1) C (by omega) (by decide) dL_law_2207 dL_law_2208 dL_law_2209 dL_law_2210 dL_law_2211 ?_
  refine lw_arg (j := 2) C (by omega) (by decide) dL_law_2212 dL_law_2213 dL_law_2214 dL_law_2215 dL_law_2216 ?_
  refine lw_call (As := [.int (xs (i + 1)), .int (xs (i + 2))]) C c2 ok_X12_arrayElement ml_L_322 rfl rfl rfl rfl (Nat.le_of_ble_eq_true rfl) ⟨Nat.le_of_ble_eq_true rfl, Nat.le_of_ble_eq_true rfl⟩ dL_law_2217 ?_
  rintro rv h2 ⟨rfl, iv⟩
  exact lw_leq (tgt := 2324) C dL_law_2220 dL_law_2221 (by decide) (k h2 iv)
theorem law_76 {i : Nat} (C : LwC G p s m meth c b L xs) (hi : i + 4 ≤ L) (iv : Inv h) (k : LwK G p e s m below meth c b i) : Lw G p e s m below meth c b 2226 (nI i) [] h := by
  obtain ⟨a, ok, ci, ri⟩ := iv
  refine lw_ld1 C dL_law_2226 ?_
  refine lw_arg (j := 1) C (by omega) (by decide) dL_law_2227 dL_law_2228 dL_law_2229 dL_law_2230 dL_law_2231 ?_
  refine lw_arg (j := 2) C (by omega) (by decide) dL_law_2232 dL_law_2233 dL_law_2234 dL_law_2235 dL_law_2236 ?_
  refine lw_call (As := [.int (xs (i + 1)), .int (xs (i + 2))]) C (pr_firstMismatch (G := G) (d := 0) (x := xs (i + 1)) (y := xs (i + 2)) (z := 0) ok ci ri) ok_X11_firstMismatch ml_L_323 rfl rfl rfl rfl (Nat.le_of_ble_eq_true rfl) ⟨Nat.le_of_ble_eq_true rfl, Nat.le_of_ble_eq_true rfl⟩ dL_law_2237 ?_
  rintro rv h1 ⟨r, rfl, c2⟩
  refine lw_ld2 C dL_law_2240 ?_
  refine lw_arg (j := 1) C (by omega) (by decide) dL_law_2241 dL_law_2242 dL_law_2243 dL_law_2244 dL_law_2245 ?_
  refine lw_arg (j := 2) C (by omega) (by decide) dL_law_2246 dL_law_2247 dL_law_2248 dL_law_2249 dL_law_2250 ?_
  refine lw_call (As := [.int (xs (i + 1)), .int (xs (i + 2))]) C c2 ok_X12_firstMismatch ml_L_326 rfl rfl rfl rfl (Nat.le_of_ble_eq_true rfl) ⟨Nat.le_of_ble_eq_true rfl, Nat.le_of_ble_eq_true rfl⟩ dL_law_2251 ?_
  rintro rv h2 ⟨rfl, iv⟩
  exact lw_eq (tgt := 2324) C dL_law_2254 (by decide) (k h2 iv)
theorem law_77 {i : Nat} (C : LwC G p s m meth c b L xs) (hi : i + 4 ≤ L) (iv : Inv h) (k : LwK G p e s m below meth c b i) : Lw G p e s m below meth c b 2259 (nI i) [] h := by
  obtain ⟨a, ok, ci, ri⟩ := iv
  refine lw_ld1 C dL_law_2259 ?_
  refine lw_call (As := []) C (pr_usedSlotCount (G := G) (d := 0) (x := 0) (y := 0) (z := 0) ok ci ri) ok_X11_usedSlotCount ml_L_327 rfl rfl rfl rfl (Nat.le_of_ble_eq_true rfl) ⟨Nat.le_of_ble_eq_true rfl, Nat.le_of_ble_eq_true rfl⟩ dL_law_2260 ?_
  rintro rv h1 ⟨r, rfl, c2⟩
  refine lw_ld2 C dL_law_2263 ?_
  refine lw_call (As := []) C c2 ok_X12_usedSlotCount ml_L_330 rfl rfl rfl rfl (Nat.le_of_ble_eq_true rfl) ⟨Nat.le_of_ble_eq_true rfl, Nat.le_of_ble_eq_true rfl⟩ dL_law_2264 ?_
  rintro rv h2 ⟨rfl, iv⟩
  exact lw_eq (tgt := 2324) C dL_law_2267 (by decide) (k h2 iv)
theorem law_78 {i : Nat} (C : LwC G p s m meth c b L xs) (hi : i + 4 ≤ L) (iv : Inv h) (k : LwK G p e s m below meth c b i) : Lw G p e s m below meth c b 2272 (nI i) [] h := by
  obtain ⟨a, ok, ci, ri⟩ := iv
  refine lw_ld1 C dL_law_2272 ?_
  refine lw_call (As := []) C (pr_changeCount (G := G) (d := 0) (x := 0) (y := 0) (z := 0) ok ci ri) ok_X11_changeCount ml_L_331 rfl rfl rfl rfl (Nat.le_of_ble_eq_true rfl) ⟨Nat.le_of_ble_eq_true rfl, Nat.le_of_ble_eq_true rfl⟩ dL_law_2273 ?_
  rintro rv h1 ⟨r, rfl, c2⟩
  refine lw_ld2 C dL_law_2276 ?_
  refine lw_call (As := []) C c2 ok_X12_changeCount ml_L_334 rfl rfl rfl rfl (Nat.le_of_ble_eq_true rfl) ⟨Nat.le_of_ble_eq_true rfl, Nat.le_of_ble_eq_true rfl⟩ dL_law_2277 ?_
  rintro rv h2 ⟨rfl, iv⟩
  exact lw_eq (tgt := 2324) C dL_law_2280 (by decide) (k h2 iv)
theorem law_79 {i : Nat} (C : LwC G p s m meth c b L xs) (hi : i + 4 ≤ L) (iv : Inv h) (k : LwK G p e s m below meth c b i) : Lw G p e s m below meth c b 2285 (nI i) [] h := by
  obtain ⟨a, ok, ci, ri⟩ := iv
  refine lw_ld1 C dL_law_2285 ?_
  refine lw_call (As := []) C (pr_inputLength (G := G) (d := 0) (x := 0) (y := 0) (z := 0) ok ci ri) ok_X11_inputLength ml_L_335 rfl rfl rfl rfl (Nat.le_of_ble_eq_true rfl) ⟨Nat.le_of_ble_eq_true rfl, Nat.le_of_ble_eq_true rfl⟩ dL_law_2286 ?_
  rintro rv h1 ⟨r, rfl, c2⟩
  refine lw_ld2 C dL_law_2289 ?_
  refine lw_call (As := []) C c2 ok_X12_inputLength ml_L_338 rfl rfl rfl rfl (Nat.le_of_ble_eq_true rfl) ⟨Nat.le_of_ble_eq_true rfl, Nat.le_of_ble_eq_true rfl⟩ dL_law_2290 ?_
  rintro rv h2 ⟨rfl, iv⟩
  exact lw_eq (tgt := 2324) C dL_law_2293 (by decide) (k h2 iv)
theorem law_80 {i : Nat} (C : LwC G p s m meth c b L xs) (hi : i + 4 ≤ L) (iv : Inv h) (k : LwK G p e s m below meth c b i) : Lw G p e s m below meth c b 2298 (nI i) [] h := by
  obtain ⟨a, ok, ci, ri⟩ := iv
  refine lw_ld1 C dL_law_2298 ?_
  refine lw_call (As := []) C (pr_takeSnapshot (G := G) (d := 0) (x := 0) (y := 0) (z := 0) ok ci ri) ok_X11_takeSnapshot ml_L_339 rfl rfl rfl rfl (Nat.le_of_ble_eq_true rfl) ⟨Nat.le_of_ble_eq_true rfl, Nat.le_of_ble_eq_true rfl⟩ dL_law_2299 ?_
  rintro rv h1 ⟨r, rfl, c2⟩
  refine lw_ld2 C dL_law_2302 ?_
  refine lw_call (As := []) C c2 ok_X12_takeSnapshot ml_L_342 rfl rfl rfl rfl (Nat.le_of_ble_eq_true rfl) ⟨Nat.le_of_ble_eq_true rfl, Nat.le_of_ble_eq_true rfl⟩ dL_law_2303 ?_
  rintro rv h2 ⟨rfl, iv⟩
  exact lw_eq (tgt := 2324) C dL_law_2306 (by decide) (k h2 iv)
theorem law_81 {i : Nat} (C : LwC G p s m meth c b L xs) (hi : i + 4 ≤ L) (iv : Inv h) (k : LwK G p e s m below meth c b i) : Lw G p e s m below meth c b 2311 (nI i) [] h := by
  obtain ⟨a, ok, ci, ri⟩ := iv
  refine lw_ld1 C dL_law_2311 ?_
  refine lw_call (As := []) C (pr_restoreSnapshot (G := G) (d := 0)  ok ci ri) ok_X11_restoreSnapshot ml_L_343 rfl rfl rfl rfl (Nat.le_of_ble_eq_true rfl) ⟨Nat.le_of_ble_eq_true rfl, Nat.le_of_ble_eq_true rfl⟩ dL_law_2312 ?_
  rintro rv h1 ⟨r, rfl, c2⟩
  refine lw_ld2 C dL_law_2315 ?_
  refine lw_call (As := []) C c2 ok_X12_restoreSnapshot ml_L_346 rfl rfl rfl rfl (Nat.le_of_ble_eq_true rfl) ⟨Nat.le_of_ble_eq_true rfl, Nat.le_of_ble_eq_true rfl⟩ dL_law_2316 ?_
  rintro rv h2 ⟨rfl, iv⟩
  exact lw_eq (tgt := 2324) C dL_law_2319 (by decide) (k h2 iv)
end LAW
