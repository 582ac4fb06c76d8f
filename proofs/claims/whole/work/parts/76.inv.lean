section INV
/-- what both sides show: the graph, its changes, the tests, the list, the input, the slots, the snapshot -/
def AS : Type := Nat × Nat × List Nat × List Tst × List Nat × List Nat × (Nat → Sl) × Option Sn
def AS.mk (n N : Nat) (HL : List Nat) (T : List Tst) (L I : List Nat) (S : Nat → Sl) (P : Option Sn) : AS := (n, N, HL, T, L, I, S, P)
def AS.n (a : AS) : Nat := a.1
def AS.N (a : AS) : Nat := a.2.1
def AS.HL (a : AS) : List Nat := a.2.2.1
def AS.T (a : AS) : List Tst := a.2.2.2.1
def AS.L (a : AS) : List Nat := a.2.2.2.2.1
def AS.I (a : AS) : List Nat := a.2.2.2.2.2.1
def AS.S (a : AS) : Nat → Sl := a.2.2.2.2.2.2.1
def AS.P (a : AS) : Option Sn := a.2.2.2.2.2.2.2
def CI (h : MH) (a : AS) : Prop := gC h a.n a.N ∧ cI h a.n a.N ∧ lqC h a.n a.N ∧ hC h a.HL ∧ tC h a.T ∧ rowIs h 40 a.L ∧ rowIs h 47 a.I ∧ SC h a.S ∧ snC h a.P
def RI (h : MH) (a : AS) : Prop := gM h a.n a.N ∧ cacheM h a.n a.N ∧ hM h a.HL ∧ tR h a.T ∧ lM h a.L ∧ iM h a.I ∧ SM h a.S ∧ snM h a.P
def OKA (a : AS) : Prop := gOK a.n a.N ∧ a.HL.length ≤ 12 ∧ (∀ K, K ∈ a.HL → gOK a.n K) ∧ okT a.T ∧ okL a.L ∧ okI a.I ∧ okSS a.S ∧ okN a.T a.P
theorem CI.g {h : MH} {a : AS} (q : CI h a) : gC h a.n a.N := q.1
theorem CI.c {h : MH} {a : AS} (q : CI h a) : cI h a.n a.N := q.2.1
theorem CI.q {h : MH} {a : AS} (q : CI h a) : lqC h a.n a.N := q.2.2.1
theorem CI.hh {h : MH} {a : AS} (q : CI h a) : hC h a.HL := q.2.2.2.1
theorem CI.t {h : MH} {a : AS} (q : CI h a) : tC h a.T := q.2.2.2.2.1
theorem CI.l {h : MH} {a : AS} (q : CI h a) : rowIs h 40 a.L := q.2.2.2.2.2.1
theorem CI.i {h : MH} {a : AS} (q : CI h a) : rowIs h 47 a.I := q.2.2.2.2.2.2.1
theorem CI.s {h : MH} {a : AS} (q : CI h a) : SC h a.S := q.2.2.2.2.2.2.2.1
theorem CI.p {h : MH} {a : AS} (q : CI h a) : snC h a.P := q.2.2.2.2.2.2.2.2
theorem RI.g {h : MH} {a : AS} (q : RI h a) : gM h a.n a.N := q.1
theorem RI.c {h : MH} {a : AS} (q : RI h a) : cacheM h a.n a.N := q.2.1
theorem RI.hh {h : MH} {a : AS} (q : RI h a) : hM h a.HL := q.2.2.1
theorem RI.t {h : MH} {a : AS} (q : RI h a) : tR h a.T := q.2.2.2.1
theorem RI.l {h : MH} {a : AS} (q : RI h a) : lM h a.L := q.2.2.2.2.1
theorem RI.i {h : MH} {a : AS} (q : RI h a) : iM h a.I := q.2.2.2.2.2.1
theorem RI.s {h : MH} {a : AS} (q : RI h a) : SM h a.S := q.2.2.2.2.2.2.1
theorem RI.p {h : MH} {a : AS} (q : RI h a) : snM h a.P := q.2.2.2.2.2.2.2
theorem OKA.g {a : AS} (q : OKA a) : gOK a.n a.N := q.1
theorem OKA.hl {a : AS} (q : OKA a) : a.HL.length ≤ 12 := q.2.1
theorem OKA.hg {a : AS} (q : OKA a) : ∀ K, K ∈ a.HL → gOK a.n K := q.2.2.1
theorem OKA.t {a : AS} (q : OKA a) : okT a.T := q.2.2.2.1
theorem OKA.l {a : AS} (q : OKA a) : okL a.L := q.2.2.2.2.1
theorem OKA.i {a : AS} (q : OKA a) : okI a.I := q.2.2.2.2.2.1
theorem OKA.s {a : AS} (q : OKA a) : okSS a.S := q.2.2.2.2.2.2.1
theorem OKA.p {a : AS} (q : OKA a) : okN a.T a.P := q.2.2.2.2.2.2.2
def Inv (h : MH) : Prop := ∃ a, OKA a ∧ CI h a ∧ RI h a
def sm (lo hi : Nat) (h h' : MH) : Prop := ∀ k, lo ≤ k → k ≤ hi → h'.1 k = h.1 k ∧ h'.2 k = h.2 k
theorem sm_of {P : Nat → Prop} {h h' : MH} {lo hi : Nat} (s : same P h h') (p : ∀ k, lo ≤ k → k ≤ hi → P k) : sm lo hi h h' := fun k h1 h2 => s k (p k h1 h2)
abbrev hiS (h h' : MH) : Prop := same (fun k => 66 < k) h h'
abbrev loS (h h' : MH) : Prop := same (fun k => k < 67) h h'
theorem fr_gC {h h' : MH} {n N : Nat} (s : sm 1 1 h h') (q : gC h n N) : gC h' n N := ⟨by rw [(s 1 (by omega) (by omega)).1]; exact q.1, by rw [(s 1 (by omega) (by omega)).2]; exact q.2⟩
theorem fr_cI {h h' : MH} {n N : Nat} (s : sm 4 25 h h') (q : cI h n N) : cI h' n N := cI_same q (fun k h1 h2 => (s k h1 h2).1)
theorem kO_sm {h h' : MH} {n N : Nat} (s : sm 4 5 h h') : ∀ ko, kO h n N ko → ∃ ko', ko ≤ ko' ∧ kO h' n N ko' := fun ko q => ⟨ko, Nat.le_refl _, q.1, by rw [(s 4 (by omega) (by omega)).1]; exact q.2.1, fun j hj => by rw [(s 5 (by omega) (by omega)).1]; exact q.2.2 j hj⟩
theorem fr_lqC {h h' : MH} {n N : Nat} (s : sm 26 31 h h') (k : ∀ ko, kO h n N ko → ∃ ko', ko ≤ ko' ∧ kO h' n N ko') (q : lqC h n N) : lqC h' n N := by
  rcases q with q | ⟨p, S, p1, p2, p3, r1, r2, r3, r4, ko, k1, k2⟩
  · exact Or.inl (by rw [(s 26 (by omega) (by omega)).1]; exact q)
  · obtain ⟨ko', e1, e2⟩ := k ko k1
    exact Or.inr ⟨p, S, p1, p2, by rw [(s 26 (by omega) (by omega)).1]; exact p3, by rw [(s 26 (by omega) (by omega)).1]; exact r1, by rw [(s 27 (by omega) (by omega)).1]; exact r2, r3, ⟨by rw [(s 28 (by omega) (by omega)).1]; exact r4.1, by rw [(s 29 (by omega) (by omega)).1]; exact r4.2⟩, ko', e2, fun m h1 h2 => Nat.lt_of_lt_of_le (k2 m h1 h2) e1⟩
theorem fr_hC {h h' : MH} {HL : List Nat} (s : sm 32 33 h h') (q : hC h HL) : hC h' HL := ⟨by rw [(s 32 (by omega) (by omega)).1]; exact q.1, fun i hi => by rw [(s 33 (by omega) (by omega)).2]; exact q.2 i hi⟩
theorem fr_tC {h h' : MH} {T : List Tst} (s : sm 34 38 h h') (q : tC h T) : tC h' T := by
  unfold tC
  rw [(s 34 (by omega) (by omega)).1, (s 35 (by omega) (by omega)).1, (s 36 (by omega) (by omega)).1, (s 37 (by omega) (by omega)).1, (s 38 (by omega) (by omega)).1]
  exact q
theorem fr_row {h h' : MH} {p : Nat} {L : List Nat} (s : sm p (p + 1) h h') (q : rowIs h p L) : rowIs h' p L := ⟨by rw [(s p (by omega) (by omega)).1]; exact q.1, by rw [(s (p + 1) (by omega) (by omega)).1]; exact q.2⟩
theorem fr_SC {h h' : MH} {S : Nat → Sl} (s : sm 52 63 h h') (q : SC h S) : SC h' S := fun k hk => by
  unfold slP
  rw [(s (52 + 3 * k) (by omega) (by omega)).1, (s (53 + 3 * k) (by omega) (by omega)).1, (s (53 + 3 * k + 1) (by omega) (by omega)).1]
  exact q k hk
theorem fr_snC {h h' : MH} {P : Option Sn} (s : sm 64 66 h h') (q : snC h P) : snC h' P := by
  cases P with
  | none => show h'.1 64 0 = nI 0; rw [(s 64 (by omega) (by omega)).1]; exact q
  | some p =>
    obtain ⟨q1, q2, q3, q4, q5⟩ := q
    exact ⟨by rw [(s 64 (by omega) (by omega)).1]; exact q1, by rw [(s 64 (by omega) (by omega)).1]; exact q2, by rw [(s 64 (by omega) (by omega)).2]; exact q3, by rw [(s 64 (by omega) (by omega)).1]; exact q4, fr_row (fun k h1 h2 => s k (by omega) (by omega)) q5⟩
theorem CI_lo {h h' : MH} {a : AS} (q : CI h a) (s : loS h h') : CI h' a := ⟨fr_gC (sm_of s (fun k h1 h2 => by omega)) q.g, fr_cI (sm_of s (fun k h1 h2 => by omega)) q.c, fr_lqC (sm_of s (fun k h1 h2 => by omega)) (kO_sm (sm_of s (fun k h1 h2 => by omega))) q.q, fr_hC (sm_of s (fun k h1 h2 => by omega)) q.hh, fr_tC (sm_of s (fun k h1 h2 => by omega)) q.t, fr_row (sm_of s (fun k h1 h2 => by omega)) q.l, fr_row (sm_of s (fun k h1 h2 => by omega)) q.i, fr_SC (sm_of s (fun k h1 h2 => by omega)) q.s, fr_snC (sm_of s (fun k h1 h2 => by omega)) q.p⟩
theorem mr_gM {P F : Nat → Prop} {h h' : MH} {n N : Nat} (m : mod P F h h') (p : P 68) (f : F 0) (q : gM h n N) : gM h' n N := ⟨by rw [m.2 0 f]; exact q.1, by rw [(m.1 68 (by decide) p).1]; exact q.2⟩
theorem mr_c {P F : Nat → Prop} {h h' : MH} {n N : Nat} (m : mod P F h h') (p1 : P 71) (p2 : P 72) (p3 : P 73) (f1 : F 5) (f2 : F 7) (q : cacheM h n N) : cacheM h' n N := by
  rcases q with q | q
  · exact Or.inl (by rw [m.2 5 f1]; exact q)
  · exact Or.inr (tM_mod q m p1 p2 p3 f1 f2)
theorem mr_hM {P F : Nat → Prop} {h h' : MH} {HL : List Nat} (m : mod P F h h') (p : P 69) (f : F 3) (q : hM h HL) : hM h' HL := ⟨by rw [m.2 3 f]; exact q.1, by rw [(m.1 69 (by decide) p).1]; exact q.2⟩
theorem mr_tR {P F : Nat → Prop} {h h' : MH} {T : List Tst} (m : mod P F h h') (p : P 77) (f : F 16) (q : tR h T) : tR h' T := ⟨by rw [m.2 16 f]; exact q.1, by rw [(m.1 77 (by decide) p).1]; exact q.2⟩
theorem mr_lM {P F : Nat → Prop} {h h' : MH} {L : List Nat} (m : mod P F h h') (p : P 78) (f : F 18) (q : lM h L) : lM h' L := ⟨by rw [m.2 18 f]; exact q.1, by rw [(m.1 78 (by decide) p).1]; exact q.2⟩
theorem mr_iM {P F : Nat → Prop} {h h' : MH} {I : List Nat} (m : mod P F h h') (p : P 80) (f : F 21) (q : iM h I) : iM h' I := ⟨by rw [m.2 21 f]; exact q.1, by rw [(m.1 80 (by decide) p).1]; exact q.2⟩
theorem mr_SM {P F : Nat → Prop} {h h' : MH} {S : Nat → Sl} (m : mod P F h h') (p1 : P 83) (p2 : P 84) (p3 : ∀ k, k < 4 → P (86 + k)) (q : SM h S) : SM h' S := fun k hk => by
  unfold slM
  rw [(m.1 83 (by decide) p1).1, (m.1 84 (by decide) p2).1, (m.1 (86 + k) (by omega) (p3 k hk)).1]
  exact q k hk
theorem mr_snM {P F : Nat → Prop} {h h' : MH} {s : Option Sn} (m : mod P F h h') (p : P 90) (f : F 30) (q : snM h s) : snM h' s := by
  cases s with
  | none => show h'.1 67 30 = nI 0; rw [m.2 30 f]; exact q
  | some p0 =>
    unfold snM
    rw [m.2 30 f, (m.1 90 (by decide) p).1]
    exact q
theorem RI_hi {h h' : MH} {a : AS} (q : RI h a) (s : hiS h h') : RI h' a := by
  have m : mod (fun k => 66 < k) (fun _ => True) h h' := ⟨fun k _ hk => s k hk, fun j _ => by rw [(s 67 (by decide)).1]⟩
  exact ⟨mr_gM m (by decide) trivial q.g, mr_c m (by decide) (by decide) (by decide) trivial trivial q.c, mr_hM m (by decide) trivial q.hh, mr_tR m (by decide) trivial q.t, mr_lM m (by decide) trivial q.l, mr_iM m (by decide) trivial q.i, mr_SM m (by decide) (by decide) (fun k hk => by omega) q.s, mr_snM m (by decide) trivial q.p⟩
theorem lo_mod {P F : Nat → Prop} {h h' : MH} (m : mod P F h h') (p : ∀ k, k < 67 → P k) : loS h h' := fun k hk => m.1 k (by omega) (p k hk)

theorem CI_i {h h' : MH} {a : AS}  (q : CI h a) (s0 : iq a.n a.N h h') (c1 : cI h' a.n a.N) : hiS h h' ∧ CI h' a := ⟨s0.1.mono (fun k hk => by omega), fr_gC (sm_of s0.1 (fun k h1 h2 => by omega)) q.g, c1, fr_lqC (sm_of s0.1 (fun k h1 h2 => by omega)) s0.2 q.q, fr_hC (sm_of s0.1 (fun k h1 h2 => by omega)) q.hh, fr_tC (sm_of s0.1 (fun k h1 h2 => by omega)) q.t, fr_row (sm_of s0.1 (fun k h1 h2 => by omega)) q.l, fr_row (sm_of s0.1 (fun k h1 h2 => by omega)) q.i, fr_SC (sm_of s0.1 (fun k h1 h2 => by omega)) q.s, fr_snC (sm_of s0.1 (fun k h1 h2 => by omega)) q.p⟩
theorem CI_e {h h' : MH} {a : AS}  (q : CI h a) (s : same (fun k => k ≠ 2 ∧ k ≠ 3) h h') : hiS h h' ∧ CI h' a := ⟨s.mono (fun k hk => by omega), fr_gC (sm_of s (fun k h1 h2 => by omega)) q.g, fr_cI (sm_of s (fun k h1 h2 => by omega)) q.c, fr_lqC (sm_of s (fun k h1 h2 => by omega)) (kO_sm (sm_of s (fun k h1 h2 => by omega))) q.q, fr_hC (sm_of s (fun k h1 h2 => by omega)) q.hh, fr_tC (sm_of s (fun k h1 h2 => by omega)) q.t, fr_row (sm_of s (fun k h1 h2 => by omega)) q.l, fr_row (sm_of s (fun k h1 h2 => by omega)) q.i, fr_SC (sm_of s (fun k h1 h2 => by omega)) q.s, fr_snC (sm_of s (fun k h1 h2 => by omega)) q.p⟩
theorem CI_l {h h' : MH} {a : AS}  (q : CI h a) (s0 : lqf a.n a.N h h') : hiS h h' ∧ CI h' a := ⟨s0.1.mono (fun k hk => by omega), fr_gC (sm_of s0.1 (fun k h1 h2 => by omega)) q.g, s0.2.1, s0.2.2, fr_hC (sm_of s0.1 (fun k h1 h2 => by omega)) q.hh, fr_tC (sm_of s0.1 (fun k h1 h2 => by omega)) q.t, fr_row (sm_of s0.1 (fun k h1 h2 => by omega)) q.l, fr_row (sm_of s0.1 (fun k h1 h2 => by omega)) q.i, fr_SC (sm_of s0.1 (fun k h1 h2 => by omega)) q.s, fr_snC (sm_of s0.1 (fun k h1 h2 => by omega)) q.p⟩
theorem CI_t {h h' : MH} {a : AS}  (q : CI h a) (s : sT h h') : hiS h h' ∧ CI h' a := ⟨s.mono (fun k hk => by omega), fr_gC (sm_of s (fun k h1 h2 => by omega)) q.g, fr_cI (sm_of s (fun k h1 h2 => by omega)) q.c, fr_lqC (sm_of s (fun k h1 h2 => by omega)) (kO_sm (sm_of s (fun k h1 h2 => by omega))) q.q, fr_hC (sm_of s (fun k h1 h2 => by omega)) q.hh, fr_tC (sm_of s (fun k h1 h2 => by omega)) q.t, fr_row (sm_of s (fun k h1 h2 => by omega)) q.l, fr_row (sm_of s (fun k h1 h2 => by omega)) q.i, fr_SC (sm_of s (fun k h1 h2 => by omega)) q.s, fr_snC (sm_of s (fun k h1 h2 => by omega)) q.p⟩
theorem CI_L {h h' : MH} {a : AS} {L : List Nat} (q : CI h a) (s : same (fun k => k < 40 ∨ 45 < k) h h') (r : rowIs h' 40 L) : hiS h h' ∧ CI h' (AS.mk a.n a.N a.HL a.T L a.I a.S a.P) := ⟨s.mono (fun k hk => by omega), fr_gC (sm_of s (fun k h1 h2 => by omega)) q.g, fr_cI (sm_of s (fun k h1 h2 => by omega)) q.c, fr_lqC (sm_of s (fun k h1 h2 => by omega)) (kO_sm (sm_of s (fun k h1 h2 => by omega))) q.q, fr_hC (sm_of s (fun k h1 h2 => by omega)) q.hh, fr_tC (sm_of s (fun k h1 h2 => by omega)) q.t, r, fr_row (sm_of s (fun k h1 h2 => by omega)) q.i, fr_SC (sm_of s (fun k h1 h2 => by omega)) q.s, fr_snC (sm_of s (fun k h1 h2 => by omega)) q.p⟩
theorem CI_T {h h' : MH} {a : AS} {T : List Tst} (q : CI h a) (s : same (fun k => k < 34 ∨ 38 < k) h h') (r : tC h' T) : hiS h h' ∧ CI h' (AS.mk a.n a.N a.HL T a.L a.I a.S a.P) := ⟨s.mono (fun k hk => by omega), fr_gC (sm_of s (fun k h1 h2 => by omega)) q.g, fr_cI (sm_of s (fun k h1 h2 => by omega)) q.c, fr_lqC (sm_of s (fun k h1 h2 => by omega)) (kO_sm (sm_of s (fun k h1 h2 => by omega))) q.q, fr_hC (sm_of s (fun k h1 h2 => by omega)) q.hh, r, fr_row (sm_of s (fun k h1 h2 => by omega)) q.l, fr_row (sm_of s (fun k h1 h2 => by omega)) q.i, fr_SC (sm_of s (fun k h1 h2 => by omega)) q.s, fr_snC (sm_of s (fun k h1 h2 => by omega)) q.p⟩
theorem CI_I {h h' : MH} {a : AS} {I : List Nat} (q : CI h a) (s : sI h h') (r : rowIs h' 47 I) : hiS h h' ∧ CI h' (AS.mk a.n a.N a.HL a.T a.L I a.S a.P) := ⟨s.mono (fun k hk => by omega), fr_gC (sm_of s (fun k h1 h2 => by omega)) q.g, fr_cI (sm_of s (fun k h1 h2 => by omega)) q.c, fr_lqC (sm_of s (fun k h1 h2 => by omega)) (kO_sm (sm_of s (fun k h1 h2 => by omega))) q.q, fr_hC (sm_of s (fun k h1 h2 => by omega)) q.hh, fr_tC (sm_of s (fun k h1 h2 => by omega)) q.t, fr_row (sm_of s (fun k h1 h2 => by omega)) q.l, r, fr_SC (sm_of s (fun k h1 h2 => by omega)) q.s, fr_snC (sm_of s (fun k h1 h2 => by omega)) q.p⟩
theorem CI_S {h h' : MH} {a : AS} {S : Nat → Sl} (q : CI h a) (s : same (fun k => k < 51 ∨ 63 < k) h h') (r : SC h' S) : hiS h h' ∧ CI h' (AS.mk a.n a.N a.HL a.T a.L a.I S a.P) := ⟨s.mono (fun k hk => by omega), fr_gC (sm_of s (fun k h1 h2 => by omega)) q.g, fr_cI (sm_of s (fun k h1 h2 => by omega)) q.c, fr_lqC (sm_of s (fun k h1 h2 => by omega)) (kO_sm (sm_of s (fun k h1 h2 => by omega))) q.q, fr_hC (sm_of s (fun k h1 h2 => by omega)) q.hh, fr_tC (sm_of s (fun k h1 h2 => by omega)) q.t, fr_row (sm_of s (fun k h1 h2 => by omega)) q.l, fr_row (sm_of s (fun k h1 h2 => by omega)) q.i, r, fr_snC (sm_of s (fun k h1 h2 => by omega)) q.p⟩
theorem CI_N {h h' : MH} {a : AS} {P : Option Sn} (q : CI h a) (s : same (fun k => k < 64 ∨ 66 < k) h h') (r : snC h' P) : hiS h h' ∧ CI h' (AS.mk a.n a.N a.HL a.T a.L a.I a.S P) := ⟨s.mono (fun k hk => by omega), fr_gC (sm_of s (fun k h1 h2 => by omega)) q.g, fr_cI (sm_of s (fun k h1 h2 => by omega)) q.c, fr_lqC (sm_of s (fun k h1 h2 => by omega)) (kO_sm (sm_of s (fun k h1 h2 => by omega))) q.q, fr_hC (sm_of s (fun k h1 h2 => by omega)) q.hh, fr_tC (sm_of s (fun k h1 h2 => by omega)) q.t, fr_row (sm_of s (fun k h1 h2 => by omega)) q.l, fr_row (sm_of s (fun k h1 h2 => by omega)) q.i, fr_SC (sm_of s (fun k h1 h2 => by omega)) q.s, r⟩
theorem CI_P {h h' : MH} {a : AS} {L I : List Nat} (q : CI h a) (s : same (fun k => (k < 40 ∨ 45 < k) ∧ (k < 46 ∨ 50 < k)) h h') (r1 : rowIs h' 47 I) (r : rowIs h' 40 L) : hiS h h' ∧ CI h' (AS.mk a.n a.N a.HL a.T L I a.S a.P) := ⟨s.mono (fun k hk => by omega), fr_gC (sm_of s (fun k h1 h2 => by omega)) q.g, fr_cI (sm_of s (fun k h1 h2 => by omega)) q.c, fr_lqC (sm_of s (fun k h1 h2 => by omega)) (kO_sm (sm_of s (fun k h1 h2 => by omega))) q.q, fr_hC (sm_of s (fun k h1 h2 => by omega)) q.hh, fr_tC (sm_of s (fun k h1 h2 => by omega)) q.t, r, r1, fr_SC (sm_of s (fun k h1 h2 => by omega)) q.s, fr_snC (sm_of s (fun k h1 h2 => by omega)) q.p⟩
theorem CI_F {h h' : MH} {a : AS} {L : List Nat} (q : CI h a) (s0 : iql a.n a.N h h') (c1 : cI h' a.n a.N) (r : rowIs h' 40 L) : hiS h h' ∧ CI h' (AS.mk a.n a.N a.HL a.T L a.I a.S a.P) := ⟨s0.1.mono (fun k hk => by omega), fr_gC (sm_of s0.1 (fun k h1 h2 => by omega)) q.g, c1, fr_lqC (sm_of s0.1 (fun k h1 h2 => by omega)) s0.2 q.q, fr_hC (sm_of s0.1 (fun k h1 h2 => by omega)) q.hh, fr_tC (sm_of s0.1 (fun k h1 h2 => by omega)) q.t, r, fr_row (sm_of s0.1 (fun k h1 h2 => by omega)) q.i, fr_SC (sm_of s0.1 (fun k h1 h2 => by omega)) q.s, fr_snC (sm_of s0.1 (fun k h1 h2 => by omega)) q.p⟩
theorem CI_G {h h' : MH} {a : AS} {n N : Nat} {HL : List Nat} (q : CI h a) (s : same (fun k => ¬ gone k ∧ k ≠ 32 ∧ k ≠ 33) h h') (g1 : gC h' n N) (hh1 : hC h' HL) (f1 : fresh h') : hiS h h' ∧ CI h' (AS.mk n N HL a.T a.L a.I a.S a.P) := ⟨s.mono (fun k hk => by simp only [gone]; omega), g1, cI_fresh f1, Or.inl f1.2.2.2, hh1, fr_tC (sm_of s (fun k h1 h2 => by simp only [gone]; omega)) q.t, fr_row (sm_of s (fun k h1 h2 => by simp only [gone]; omega)) q.l, fr_row (sm_of s (fun k h1 h2 => by simp only [gone]; omega)) q.i, fr_SC (sm_of s (fun k h1 h2 => by simp only [gone]; omega)) q.s, fr_snC (sm_of s (fun k h1 h2 => by simp only [gone]; omega)) q.p⟩
theorem CI_R {h h' : MH} {a : AS} {n N : Nat} {HL L : List Nat} {T : List Tst} (q : CI h a) (s : same (fun k => ¬ gone k ∧ k ≠ 32 ∧ k ≠ 34 ∧ k ≠ 40 ∧ k ≠ 41) h h') (g1 : gC h' n N) (hh1 : hC h' HL) (f1 : fresh h') (t1 : tC h' T) (r1 : rowIs h' 40 L) : hiS h h' ∧ CI h' (AS.mk n N HL T L a.I a.S a.P) := ⟨s.mono (fun k hk => by simp only [gone]; omega), g1, cI_fresh f1, Or.inl f1.2.2.2, hh1, t1, r1, fr_row (sm_of s (fun k h1 h2 => by simp only [gone]; omega)) q.i, fr_SC (sm_of s (fun k h1 h2 => by simp only [gone]; omega)) q.s, fr_snC (sm_of s (fun k h1 h2 => by simp only [gone]; omega)) q.p⟩
theorem RI_m {h h' : MH} {a : AS}  (q : RI h a) (m : ms h h') (c1 : cacheM h' a.n a.N) : loS h h' ∧ RI h' a := ⟨lo_mod m (fun k hk => by simp only [scrP]; omega), mr_gM m (by simp [scrP, scrF]) (by simp [scrP, scrF]) q.g, c1, mr_hM m (by simp [scrP, scrF]) (by simp [scrP, scrF]) q.hh, mr_tR m (by simp [scrP, scrF]) (by simp [scrP, scrF]) q.t, mr_lM m (by simp [scrP, scrF]) (by simp [scrP, scrF]) q.l, mr_iM m (by simp [scrP, scrF]) (by simp [scrP, scrF]) q.i, mr_SM m (by simp [scrP, scrF]) (by simp [scrP, scrF]) (fun k hk => by simp only [scrP]; omega) q.s, mr_snM m (by simp [scrP, scrF]) (by simp [scrP, scrF]) q.p⟩
theorem RI_F {h h' : MH} {a : AS} {L : List Nat} (q : RI h a) (m : msl h h') (c1 : cacheM h' a.n a.N) (r : lM h' L) : loS h h' ∧ RI h' (AS.mk a.n a.N a.HL a.T L a.I a.S a.P) := ⟨lo_mod m (fun k hk => by simp only [scrP]; omega), mr_gM m (by simp [scrP, scrF]) (by simp [scrP, scrF]) q.g, c1, mr_hM m (by simp [scrP, scrF]) (by simp [scrP, scrF]) q.hh, mr_tR m (by simp [scrP, scrF]) (by simp [scrP, scrF]) q.t, r, mr_iM m (by simp [scrP, scrF]) (by simp [scrP, scrF]) q.i, mr_SM m (by simp [scrP, scrF]) (by simp [scrP, scrF]) (fun k hk => by simp only [scrP]; omega) q.s, mr_snM m (by simp [scrP, scrF]) (by simp [scrP, scrF]) q.p⟩
theorem RI_t {h h' : MH} {a : AS}  (q : RI h a) (m : mT h h') : loS h h' ∧ RI h' a := ⟨lo_mod m (fun k hk => by omega), mr_gM m (by simp) (by simp) q.g, mr_c m (by simp) (by simp) (by simp) (by simp) (by simp) q.c, mr_hM m (by simp) (by simp) q.hh, mr_tR m (by simp) (by simp) q.t, mr_lM m (by simp) (by simp) q.l, mr_iM m (by simp) (by simp) q.i, mr_SM m (by simp) (by simp) (fun k hk => by omega) q.s, mr_snM m (by simp) (by simp) q.p⟩
theorem RI_T {h h' : MH} {a : AS} {T : List Tst} (q : RI h a) (m : mod (fun k => k ≠ 77) (fun j => j ≠ 16) h h') (r : tR h' T) : loS h h' ∧ RI h' (AS.mk a.n a.N a.HL T a.L a.I a.S a.P) := ⟨lo_mod m (fun k hk => by omega), mr_gM m (by simp) (by simp) q.g, mr_c m (by simp) (by simp) (by simp) (by simp) (by simp) q.c, mr_hM m (by simp) (by simp) q.hh, r, mr_lM m (by simp) (by simp) q.l, mr_iM m (by simp) (by simp) q.i, mr_SM m (by simp) (by simp) (fun k hk => by omega) q.s, mr_snM m (by simp) (by simp) q.p⟩
theorem RI_L {h h' : MH} {a : AS} {L : List Nat} (q : RI h a) (m : lm h h') (r : lM h' L) : loS h h' ∧ RI h' (AS.mk a.n a.N a.HL a.T L a.I a.S a.P) := ⟨lo_mod m (fun k hk => by omega), mr_gM m (by simp) (by simp) q.g, mr_c m (by simp) (by simp) (by simp) (by simp) (by simp) q.c, mr_hM m (by simp) (by simp) q.hh, mr_tR m (by simp) (by simp) q.t, r, mr_iM m (by simp) (by simp) q.i, mr_SM m (by simp) (by simp) (fun k hk => by omega) q.s, mr_snM m (by simp) (by simp) q.p⟩
theorem RI_I {h h' : MH} {a : AS} {I : List Nat} (q : RI h a) (m : mI h h') (r : iM h' I) : loS h h' ∧ RI h' (AS.mk a.n a.N a.HL a.T a.L I a.S a.P) := ⟨lo_mod m (fun k hk => by omega), mr_gM m (by simp) (by simp) q.g, mr_c m (by simp) (by simp) (by simp) (by simp) (by simp) q.c, mr_hM m (by simp) (by simp) q.hh, mr_tR m (by simp) (by simp) q.t, mr_lM m (by simp) (by simp) q.l, r, mr_SM m (by simp) (by simp) (fun k hk => by omega) q.s, mr_snM m (by simp) (by simp) q.p⟩
theorem RI_S {h h' : MH} {a : AS} {S : Nat → Sl} (q : RI h a) (m : mS h h') (r : SM h' S) : loS h h' ∧ RI h' (AS.mk a.n a.N a.HL a.T a.L a.I S a.P) := ⟨lo_mod m (fun k hk => by omega), mr_gM m (by simp) (by simp) q.g, mr_c m (by simp) (by simp) (by simp) (by simp) (by simp) q.c, mr_hM m (by simp) (by simp) q.hh, mr_tR m (by simp) (by simp) q.t, mr_lM m (by simp) (by simp) q.l, mr_iM m (by simp) (by simp) q.i, r, mr_snM m (by simp) (by simp) q.p⟩
theorem RI_N {h h' : MH} {a : AS} {P : Option Sn} (q : RI h a) (m : mod (fun k => k ≠ 90) (fun j => j ≠ 30) h h') (r : snM h' P) : loS h h' ∧ RI h' (AS.mk a.n a.N a.HL a.T a.L a.I a.S P) := ⟨lo_mod m (fun k hk => by omega), mr_gM m (by simp) (by simp) q.g, mr_c m (by simp) (by simp) (by simp) (by simp) (by simp) q.c, mr_hM m (by simp) (by simp) q.hh, mr_tR m (by simp) (by simp) q.t, mr_lM m (by simp) (by simp) q.l, mr_iM m (by simp) (by simp) q.i, mr_SM m (by simp) (by simp) (fun k hk => by omega) q.s, r⟩
theorem RI_P {h h' : MH} {a : AS} {L I : List Nat} (q : RI h a) (m : mP h h') (r1 : iM h' I) (r : lM h' L) : loS h h' ∧ RI h' (AS.mk a.n a.N a.HL a.T L I a.S a.P) := ⟨lo_mod m (fun k hk => by omega), mr_gM m (by simp) (by simp) q.g, mr_c m (by simp) (by simp) (by simp) (by simp) (by simp) q.c, mr_hM m (by simp) (by simp) q.hh, mr_tR m (by simp) (by simp) q.t, r, r1, mr_SM m (by simp) (by simp) (fun k hk => by omega) q.s, mr_snM m (by simp) (by simp) q.p⟩
theorem RI_G {h h' : MH} {a : AS} {n N : Nat} {HL : List Nat} (q : RI h a) (m : mod (fun k => k ≠ 68 ∧ k ≠ 69 ∧ k ≠ 70) (fun i => i ≠ 0 ∧ i ≠ 3 ∧ i ≠ 5) h h') (g1 : gM h' n N) (hh1 : hM h' HL) (f1 : h'.1 67 5 = nI 1) : loS h h' ∧ RI h' (AS.mk n N HL a.T a.L a.I a.S a.P) := ⟨lo_mod m (fun k hk => by omega), g1, Or.inl f1, hh1, mr_tR m (by simp) (by simp) q.t, mr_lM m (by simp) (by simp) q.l, mr_iM m (by simp) (by simp) q.i, mr_SM m (by simp) (by simp) (fun k hk => by omega) q.s, mr_snM m (by simp) (by simp) q.p⟩
theorem RI_R {h h' : MH} {a : AS} {n N : Nat} {HL L : List Nat} {T : List Tst} (q : RI h a) (m : mod (fun k => k ≠ 68 ∧ k ≠ 77 ∧ k ≠ 78) (fun j => j ≠ 0 ∧ j ≠ 3 ∧ j ≠ 5 ∧ j ≠ 16 ∧ j ≠ 18) h h') (g1 : gM h' n N) (hh1 : hM h' HL) (f1 : h'.1 67 5 = nI 1) (t1 : tR h' T) (r1 : lM h' L) : loS h h' ∧ RI h' (AS.mk n N HL T L a.I a.S a.P) := ⟨lo_mod m (fun k hk => by omega), g1, Or.inl f1, hh1, t1, r1, mr_iM m (by simp) (by simp) q.i, mr_SM m (by simp) (by simp) (fun k hk => by omega) q.s, mr_snM m (by simp) (by simp) q.p⟩
theorem hi_rf {h : MH} {a : AS} (q : CI h a) : hiS h h ∧ CI h a := ⟨same.rf, q⟩
theorem lo_rf {h : MH} {a : AS} (q : RI h a) : loS h h ∧ RI h a := ⟨same.rf, q⟩
/-- the class's call, then the reference's: one answer, and all holds again -/
def PrI (G : MG) (d : Nat) (M M' : MI) (av : List Value) (h : MH) : Prop := Cl G d M (.ref 0 :: av) h (fun rv h1 => ∃ x : Int32, rv = some (.int x) ∧ Cl G d M' (.ref 67 :: av) h1 (fun rv' h2 => rv' = some (.int x) ∧ Inv h2))
def PrL (G : MG) (d : Nat) (M M' : MI) (av : List Value) (h : MH) : Prop := Cl G d M (.ref 0 :: av) h (fun rv h1 => ∃ x : Int64, rv = some (.long x) ∧ Cl G d M' (.ref 67 :: av) h1 (fun rv' h2 => rv' = some (.long x) ∧ Inv h2))
theorem prI_mk {G : MG} {d : Nat} {M M' : MI} {av : List Value} {h : MH} {a a' : AS} {x : Int32} (ok : OKA a') (ri : RI h a) (c : Cl G d M (.ref 0 :: av) h (fun rv h1 => rv = some (.int x) ∧ hiS h h1 ∧ CI h1 a')) (m : ∀ h1, RI h1 a → Cl G d M' (.ref 67 :: av) h1 (fun rv h2 => rv = some (.int x) ∧ loS h1 h2 ∧ RI h2 a')) : PrI G d M M' av h :=
  cl_mono (fun rv h1 q => ⟨x, q.1, cl_mono (fun rv h2 p => ⟨p.1, a', ok, CI_lo q.2.2 p.2.1, p.2.2⟩) (m h1 (RI_hi ri q.2.1))⟩) c
theorem prL_mk {G : MG} {d : Nat} {M M' : MI} {av : List Value} {h : MH} {a a' : AS} {x : Int64} (ok : OKA a') (ri : RI h a) (c : Cl G d M (.ref 0 :: av) h (fun rv h1 => rv = some (.long x) ∧ hiS h h1 ∧ CI h1 a')) (m : ∀ h1, RI h1 a → Cl G d M' (.ref 67 :: av) h1 (fun rv h2 => rv = some (.long x) ∧ loS h1 h2 ∧ RI h2 a')) : PrL G d M M' av h :=
  cl_mono (fun rv h1 q => ⟨x, q.1, cl_mono (fun rv h2 p => ⟨p.1, a', ok, CI_lo q.2.2 p.2.1, p.2.2⟩) (m h1 (RI_hi ri q.2.1))⟩) c
end INV
