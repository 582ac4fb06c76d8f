section CORE
/-- the words that a callee may take over -/
def m_tbl : List Cond := lw_tbl.filter goodWord
theorem m_tm {w : Cond} (h : w ∈ lw_tbl) (hg : goodWord w = true) : w ∈ m_tbl := List.mem_filter.mpr ⟨h, hg⟩
/-- the heap as the walks see it: ints and longs by place and slot; what refers to what never changes and stands in m_lay -/
abbrev MH : Type := (Nat → Nat → Int32) × (Nat → Nat → Int64)
abbrev MD : Type := (Nat × Nat × List Nat) ⊕ (Nat × List Nat)
abbrev MI : Type := MethodName × ByteArray × Nat × Option FieldType
abbrev MG : Type := Launch × va_G × (Nat → ClassId) × (Nat → Nat)
abbrev m_cls : List vw_C := [(RX0, TX0, 2), (RX1, TX1, 3), (RX2, TX2, 10), (RX3, TX3, 5), (RX4, TX4, 7), (RX5, TX5, 3), (RX7, TX7, 2), (RX8, TX8, 2), (RX9, TX9, 5), (RX10, TX10, 5), (RX11, TX11, 9), (RX12, TX12, 31)]
/-- places: an array by kind, length and the places of its elements; an object by class and the kinds of its fields (0 int, 1 long, p + 2 the place p) -/
def m_lay : List MD := [.inr (10, [3, 6, 28, 34, 36, 41, 48, 53, 66]), .inr (1, [0, 1, 4]), .inr (6, [5, 0]), .inl (0, 7, []), .inr (2, [3, 7, 0, 8, 10, 0, 12, 13, 14, 15]), .inl (0, 16384, []), .inr (6, [9, 0]), .inl (0, 35, []), .inr (6, [11, 0]), .inl (0, 35, []), .inl (3, 3, [14, 16, 18]), .inl (1, 3, []), .inl (3, 3, [20, 22, 24]), .inl (1, 3, []), .inr (6, [17, 0]), .inl (0, 728, []), .inr (6, [19, 0]), .inl (0, 728, []), .inr (6, [21, 0]), .inl (0, 728, []), .inr (6, [23, 0]), .inl (0, 2128, []), .inr (6, [25, 0]), .inl (0, 2128, []), .inr (6, [27, 0]), .inl (0, 2128, []), .inr (4, [3, 6, 29, 30, 32, 0, 0]), .inl (0, 7, []), .inr (6, [31, 0]), .inl (0, 728, []), .inr (6, [33, 0]), .inl (0, 728, []), .inr (0, [35, 0]), .inl (2, 12, []), .inr (9, [37, 38, 39, 40, 0]), .inl (0, 8, []), .inl (0, 8, []), .inl (0, 8, []), .inl (0, 8, []), .inr (5, [42, 44, 46]), .inr (6, [43, 0]), .inl (0, 24, []), .inr (6, [45, 0]), .inl (0, 24, []), .inr (6, [47, 0]), .inl (0, 359, []), .inr (3, [49, 51, 0, 0, 0]), .inr (6, [50, 0]), .inl (0, 60, []), .inr (6, [52, 0]), .inl (0, 24, []), .inl (4, 4, [52, 55, 58, 61]), .inr (7, [0, 55]), .inr (6, [56, 0]), .inl (0, 30, []), .inr (7, [0, 58]), .inr (6, [59, 0]), .inl (0, 30, []), .inr (7, [0, 61]), .inr (6, [62, 0]), .inl (0, 30, []), .inr (7, [0, 64]), .inr (6, [65, 0]), .inl (0, 30, []), .inr (8, [0, 0, 1, 0, 67]), .inr (6, [68, 0]), .inl (0, 24, []), .inr (11, [0, 70, 71, 0, 72, 0, 73, 0, 74, 75, 76, 0, 77, 0, 78, 79, 0, 80, 0, 81, 82, 0, 0, 83, 84, 0, 85, 86, 87, 92, 0]), .inl (0, 7, []), .inl (0, 84, []), .inl (0, 7, []), .inl (0, 128, []), .inl (0, 16384, []), .inl (0, 16384, []), .inl (0, 7, []), .inl (0, 16384, []), .inl (0, 7, []), .inl (0, 24, []), .inl (0, 24, []), .inl (0, 24, []), .inl (0, 60, []), .inl (0, 24, []), .inl (0, 400, []), .inl (0, 4, []), .inl (0, 4, []), .inl (5, 4, [86, 87, 88, 89]), .inl (0, 30, []), .inl (0, 30, []), .inl (0, 30, []), .inl (0, 30, []), .inl (0, 58, [])]
def m_tys (dA : Nat → ClassId) : List (ClassId × FieldType) := [(dA 0, .int), (dA 1, .boolean), (dA 2, .long), (dA 3, .object "EdgeIdeals$Row"), (dA 4, .object "EdgeIdeals$Slot"), (dA 5, .array .int)]
theorem ly_0 : m_lay[0]? = some (.inr (10, [3, 6, 28, 34, 36, 41, 48, 53, 66])) := rfl
theorem ly_1 : m_lay[1]? = some (.inr (1, [0, 1, 4])) := rfl
theorem ly_2 : m_lay[2]? = some (.inr (6, [5, 0])) := rfl
theorem ly_3 : m_lay[3]? = some (.inl (0, 7, [])) := rfl
theorem ly_4 : m_lay[4]? = some (.inr (2, [3, 7, 0, 8, 10, 0, 12, 13, 14, 15])) := rfl
theorem ly_5 : m_lay[5]? = some (.inl (0, 16384, [])) := rfl
theorem ly_6 : m_lay[6]? = some (.inr (6, [9, 0])) := rfl
theorem ly_7 : m_lay[7]? = some (.inl (0, 35, [])) := rfl
theorem ly_8 : m_lay[8]? = some (.inr (6, [11, 0])) := rfl
theorem ly_9 : m_lay[9]? = some (.inl (0, 35, [])) := rfl
theorem ly_10 : m_lay[10]? = some (.inl (3, 3, [14, 16, 18])) := rfl
theorem ly_11 : m_lay[11]? = some (.inl (1, 3, [])) := rfl
theorem ly_12 : m_lay[12]? = some (.inl (3, 3, [20, 22, 24])) := rfl
theorem ly_13 : m_lay[13]? = some (.inl (1, 3, [])) := rfl
theorem ly_14 : m_lay[14]? = some (.inr (6, [17, 0])) := rfl
theorem ly_15 : m_lay[15]? = some (.inl (0, 728, [])) := rfl
theorem ly_16 : m_lay[16]? = some (.inr (6, [19, 0])) := rfl
theorem ly_17 : m_lay[17]? = some (.inl (0, 728, [])) := rfl
theorem ly_18 : m_lay[18]? = some (.inr (6, [21, 0])) := rfl
theorem ly_19 : m_lay[19]? = some (.inl (0, 728, [])) := rfl
theorem ly_20 : m_lay[20]? = some (.inr (6, [23, 0])) := rfl
theorem ly_21 : m_lay[21]? = some (.inl (0, 2128, [])) := rfl
theorem ly_22 : m_lay[22]? = some (.inr (6, [25, 0])) := rfl
theorem ly_23 : m_lay[23]? = some (.inl (0, 2128, [])) := rfl
theorem ly_24 : m_lay[24]? = some (.inr (6, [27, 0])) := rfl
theorem ly_25 : m_lay[25]? = some (.inl (0, 2128, [])) := rfl
theorem ly_26 : m_lay[26]? = some (.inr (4, [3, 6, 29, 30, 32, 0, 0])) := rfl
theorem ly_27 : m_lay[27]? = some (.inl (0, 7, [])) := rfl
theorem ly_28 : m_lay[28]? = some (.inr (6, [31, 0])) := rfl
theorem ly_29 : m_lay[29]? = some (.inl (0, 728, [])) := rfl
theorem ly_30 : m_lay[30]? = some (.inr (6, [33, 0])) := rfl
theorem ly_31 : m_lay[31]? = some (.inl (0, 728, [])) := rfl
theorem ly_32 : m_lay[32]? = some (.inr (0, [35, 0])) := rfl
theorem ly_33 : m_lay[33]? = some (.inl (2, 12, [])) := rfl
theorem ly_34 : m_lay[34]? = some (.inr (9, [37, 38, 39, 40, 0])) := rfl
theorem ly_35 : m_lay[35]? = some (.inl (0, 8, [])) := rfl
theorem ly_36 : m_lay[36]? = some (.inl (0, 8, [])) := rfl
theorem ly_37 : m_lay[37]? = some (.inl (0, 8, [])) := rfl
theorem ly_38 : m_lay[38]? = some (.inl (0, 8, [])) := rfl
theorem ly_39 : m_lay[39]? = some (.inr (5, [42, 44, 46])) := rfl
theorem ly_40 : m_lay[40]? = some (.inr (6, [43, 0])) := rfl
theorem ly_41 : m_lay[41]? = some (.inl (0, 24, [])) := rfl
theorem ly_42 : m_lay[42]? = some (.inr (6, [45, 0])) := rfl
theorem ly_43 : m_lay[43]? = some (.inl (0, 24, [])) := rfl
theorem ly_44 : m_lay[44]? = some (.inr (6, [47, 0])) := rfl
theorem ly_45 : m_lay[45]? = some (.inl (0, 359, [])) := rfl
theorem ly_46 : m_lay[46]? = some (.inr (3, [49, 51, 0, 0, 0])) := rfl
theorem ly_47 : m_lay[47]? = some (.inr (6, [50, 0])) := rfl
theorem ly_48 : m_lay[48]? = some (.inl (0, 60, [])) := rfl
theorem ly_49 : m_lay[49]? = some (.inr (6, [52, 0])) := rfl
theorem ly_50 : m_lay[50]? = some (.inl (0, 24, [])) := rfl
theorem ly_51 : m_lay[51]? = some (.inl (4, 4, [52, 55, 58, 61])) := rfl
theorem ly_52 : m_lay[52]? = some (.inr (7, [0, 55])) := rfl
theorem ly_53 : m_lay[53]? = some (.inr (6, [56, 0])) := rfl
theorem ly_54 : m_lay[54]? = some (.inl (0, 30, [])) := rfl
theorem ly_55 : m_lay[55]? = some (.inr (7, [0, 58])) := rfl
theorem ly_56 : m_lay[56]? = some (.inr (6, [59, 0])) := rfl
theorem ly_57 : m_lay[57]? = some (.inl (0, 30, [])) := rfl
theorem ly_58 : m_lay[58]? = some (.inr (7, [0, 61])) := rfl
theorem ly_59 : m_lay[59]? = some (.inr (6, [62, 0])) := rfl
theorem ly_60 : m_lay[60]? = some (.inl (0, 30, [])) := rfl
theorem ly_61 : m_lay[61]? = some (.inr (7, [0, 64])) := rfl
theorem ly_62 : m_lay[62]? = some (.inr (6, [65, 0])) := rfl
theorem ly_63 : m_lay[63]? = some (.inl (0, 30, [])) := rfl
theorem ly_64 : m_lay[64]? = some (.inr (8, [0, 0, 1, 0, 67])) := rfl
theorem ly_65 : m_lay[65]? = some (.inr (6, [68, 0])) := rfl
theorem ly_66 : m_lay[66]? = some (.inl (0, 24, [])) := rfl
theorem ly_67 : m_lay[67]? = some (.inr (11, [0, 70, 71, 0, 72, 0, 73, 0, 74, 75, 76, 0, 77, 0, 78, 79, 0, 80, 0, 81, 82, 0, 0, 83, 84, 0, 85, 86, 87, 92, 0])) := rfl
theorem ly_68 : m_lay[68]? = some (.inl (0, 7, [])) := rfl
theorem ly_69 : m_lay[69]? = some (.inl (0, 84, [])) := rfl
theorem ly_70 : m_lay[70]? = some (.inl (0, 7, [])) := rfl
theorem ly_71 : m_lay[71]? = some (.inl (0, 128, [])) := rfl
theorem ly_72 : m_lay[72]? = some (.inl (0, 16384, [])) := rfl
theorem ly_73 : m_lay[73]? = some (.inl (0, 16384, [])) := rfl
theorem ly_74 : m_lay[74]? = some (.inl (0, 7, [])) := rfl
theorem ly_75 : m_lay[75]? = some (.inl (0, 16384, [])) := rfl
theorem ly_76 : m_lay[76]? = some (.inl (0, 7, [])) := rfl
theorem ly_77 : m_lay[77]? = some (.inl (0, 24, [])) := rfl
theorem ly_78 : m_lay[78]? = some (.inl (0, 24, [])) := rfl
theorem ly_79 : m_lay[79]? = some (.inl (0, 24, [])) := rfl
theorem ly_80 : m_lay[80]? = some (.inl (0, 60, [])) := rfl
theorem ly_81 : m_lay[81]? = some (.inl (0, 24, [])) := rfl
theorem ly_82 : m_lay[82]? = some (.inl (0, 400, [])) := rfl
theorem ly_83 : m_lay[83]? = some (.inl (0, 4, [])) := rfl
theorem ly_84 : m_lay[84]? = some (.inl (0, 4, [])) := rfl
theorem ly_85 : m_lay[85]? = some (.inl (5, 4, [86, 87, 88, 89])) := rfl
theorem ly_86 : m_lay[86]? = some (.inl (0, 30, [])) := rfl
theorem ly_87 : m_lay[87]? = some (.inl (0, 30, [])) := rfl
theorem ly_88 : m_lay[88]? = some (.inl (0, 30, [])) := rfl
theorem ly_89 : m_lay[89]? = some (.inl (0, 30, [])) := rfl
theorem ly_90 : m_lay[90]? = some (.inl (0, 58, [])) := rfl
def m_v (ad : Nat → Nat) (v : Value) : Value := match v with
  | .ref p => .ref (ad p)
  | .int x => .int x
  | .long x => .long x
  | .float x => .float x
  | .double x => .double x
  | .null => .null
  | .retAddr x => .retAddr x
theorem m_v_cat (ad : Nat → Nat) (v : Value) : (m_v ad v).category = v.category := by cases v <;> rfl
def m_fld (ad : Nat → Nat) (h : MH) (k j : Nat) (t : Nat) : Value := match t with
  | 0 => .int (h.1 k j)
  | 1 => .long (h.2 k j)
  | t + 2 => .ref (ad t)
def m_flds (ad : Nat → Nat) (h : MH) (k : Nat) : Nat → List Nat → List Value
  | _, [] => []
  | j, t :: ts => m_fld ad h k j t :: m_flds ad h k (j + 1) ts
def m_arr (ad : Nat → Nat) (h : MH) (k kind : Nat) (rs : List Nat) : (Nat → Int32) ⊕ (Nat → Int64) ⊕ (Nat → UInt32) ⊕ (Nat → UInt64) ⊕ (Nat → Option Nat) := match kind with
  | 0 => .inl (h.1 k)
  | 1 => .inl (h.1 k)
  | 2 => .inr (.inl (h.2 k))
  | _ + 3 => .inr (.inr (.inr (.inr (fun j => rs[j]?.map ad))))
def m_cell (ad : Nat → Nat) (dA : Nat → ClassId) (h : MH) (k : Nat) (x : MD) : va_E := match x with
  | .inl a => .inl (dA a.1, a.2.1, m_arr ad h k a.1 a.2.2)
  | .inr a => .inr (a.1, m_flds ad h k 0 a.2)
def m_wsF (ad : Nat → Nat) (dA : Nat → ClassId) (h : MH) : Nat → List MD → va_W
  | _, [] => []
  | k, x :: xs => (ad k, m_cell ad dA h k x) :: m_wsF ad dA h (k + 1) xs
def m_ws (ad : Nat → Nat) (dA : Nat → ClassId) (h : MH) : va_W := m_wsF ad dA h 0 m_lay
def m_putA (h : MH) (k : Nat) (f : Nat → Int32) : MH := (fun k' => if k' = k then f else h.1 k', h.2)
def m_putAL (h : MH) (k : Nat) (f : Nat → Int64) : MH := (h.1, fun k' => if k' = k then f else h.2 k')
def m_put (h : MH) (k j : Nat) (v : Int32) : MH := m_putA h k (upd (h.1 k) j v)
def m_putL (h : MH) (k j : Nat) (v : Int64) : MH := m_putAL h k (vp_updL (h.2 k) j v)
theorem m_flds_get {ad : Nat → Nat} {h : MH} {k : Nat} : ∀ (ts : List Nat) (j0 j : Nat), (m_flds ad h k j0 ts)[j]? = (ts[j]?).map (m_fld ad h k (j0 + j))
  | [], j0, j => by simp [m_flds]
  | t :: ts, j0, 0 => by simp [m_flds]
  | t :: ts, j0, j + 1 => by
    rw [show (m_flds ad h k j0 (t :: ts))[j + 1]? = (m_flds ad h k (j0 + 1) ts)[j]? from rfl, m_flds_get ts (j0 + 1) j, show (t :: ts)[j + 1]? = ts[j]? from rfl, show j0 + 1 + j = j0 + (j + 1) by omega]
theorem m_flds_len {ad : Nat → Nat} {h : MH} {k : Nat} : ∀ (ts : List Nat) (j0 : Nat), (m_flds ad h k j0 ts).length = ts.length
  | [], _ => rfl
  | t :: ts, j0 => by show (m_flds ad h k (j0 + 1) ts).length + 1 = ts.length + 1; rw [m_flds_len ts (j0 + 1)]
theorem m_wsF_get {ad : Nat → Nat} {dA : Nat → ClassId} {h : MH} : ∀ (xs : List MD) (k0 k : Nat), (m_wsF ad dA h k0 xs)[k]? = (xs[k]?).map (fun x => (ad (k0 + k), m_cell ad dA h (k0 + k) x))
  | [], k0, k => by simp [m_wsF]
  | x :: xs, k0, 0 => by simp [m_wsF]
  | x :: xs, k0, k + 1 => by
    rw [show (m_wsF ad dA h k0 (x :: xs))[k + 1]? = (m_wsF ad dA h (k0 + 1) xs)[k]? from rfl, m_wsF_get xs (k0 + 1) k, show (x :: xs)[k + 1]? = xs[k]? from rfl, show k0 + 1 + k = k0 + (k + 1) by omega]
theorem m_ws_get {ad : Nat → Nat} {dA : Nat → ClassId} {h : MH} {k : Nat} {x : MD} (hk : m_lay[k]? = some x) : (m_ws ad dA h)[k]? = some (ad k, m_cell ad dA h k x) := by
  unfold m_ws; rw [m_wsF_get, hk]; simp
theorem m_ws_at {ad : Nat → Nat} {dA : Nat → ClassId} {h : MH} {k : Nat} {q : Nat × va_E} (hk : (m_ws ad dA h)[k]? = some q) : ∃ x, m_lay[k]? = some x ∧ q = (ad k, m_cell ad dA h k x) := by
  unfold m_ws at hk; rw [m_wsF_get] at hk
  cases hx : m_lay[k]? with
  | none => rw [hx] at hk; cases hk
  | some x => rw [hx] at hk; simp at hk; exact ⟨x, rfl, hk.symm⟩
theorem m_cell_off {ad : Nat → Nat} {dA : Nat → ClassId} {h h' : MH} {k : Nat} (h1 : h'.1 k = h.1 k) (h2 : h'.2 k = h.2 k) (x : MD) : m_cell ad dA h' k x = m_cell ad dA h k x := by
  have hf : ∀ (ts : List Nat) (j0 : Nat), m_flds ad h' k j0 ts = m_flds ad h k j0 ts := by
    intro ts
    induction ts with
    | nil => intro j0; rfl
    | cons t ts ih =>
      intro j0
      show m_fld ad h' k j0 t :: m_flds ad h' k (j0 + 1) ts = m_fld ad h k j0 t :: m_flds ad h k (j0 + 1) ts
      rw [ih (j0 + 1)]
      have : m_fld ad h' k j0 t = m_fld ad h k j0 t := by
        match t with
        | 0 => show Value.int (h'.1 k j0) = Value.int (h.1 k j0); rw [h1]
        | 1 => show Value.long (h'.2 k j0) = Value.long (h.2 k j0); rw [h2]
        | t + 2 => rfl
      rw [this]
  have ha : ∀ (kd : Nat) (rs : List Nat), m_arr ad h' k kd rs = m_arr ad h k kd rs := by
    intro kd rs
    match kd with
    | 0 => show Sum.inl (h'.1 k) = Sum.inl (h.1 k); rw [h1]
    | 1 => show Sum.inl (h'.1 k) = Sum.inl (h.1 k); rw [h1]
    | 2 => show Sum.inr (Sum.inl (h'.2 k)) = Sum.inr (Sum.inl (h.2 k)); rw [h2]
    | kd + 3 => rfl
  match x with
  | .inl a => show Sum.inl (dA a.1, a.2.1, m_arr ad h' k a.1 a.2.2) = Sum.inl (dA a.1, a.2.1, m_arr ad h k a.1 a.2.2); rw [ha]
  | .inr a => show Sum.inr (a.1, m_flds ad h' k 0 a.2) = Sum.inr (a.1, m_flds ad h k 0 a.2); rw [hf]
theorem m_ws_set {ad : Nat → Nat} {dA : Nat → ClassId} {h h' : MH} {k : Nat} {x : MD} {c : va_E} (hk : m_lay[k]? = some x) (hc : m_cell ad dA h' k x = c) (h1 : ∀ k', k' ≠ k → h'.1 k' = h.1 k') (h2 : ∀ k', k' ≠ k → h'.2 k' = h.2 k') : (m_ws ad dA h).set k (ad k, c) = m_ws ad dA h' := by
  subst hc
  apply List.ext_getElem?
  intro i
  by_cases e : i = k
  · subst e
    have hl := (List.getElem?_eq_some_iff.mp (m_ws_get (ad := ad) (dA := dA) (h := h) hk)).1
    rw [List.getElem?_set_self hl, m_ws_get hk]
  · rw [List.getElem?_set_ne (Ne.symm e)]
    unfold m_ws
    rw [m_wsF_get, m_wsF_get]
    cases m_lay[i]? with
    | none => rfl
    | some y => show some (ad (0 + i), m_cell ad dA h (0 + i) y) = some (ad (0 + i), m_cell ad dA h' (0 + i) y); rw [Nat.zero_add, m_cell_off (h := h) (h' := h') (h1 i e) (h2 i e)]
theorem m_ws_putF {ad : Nat → Nat} {dA : Nat → ClassId} {h : MH} {k ci j : Nat} {ts : List Nat} {v : Int32} (hk : m_lay[k]? = some (.inr (ci, ts))) (ht : ts[j]? = some 0) : (m_ws ad dA h).set k (ad k, .inr (ci, (m_flds ad h k 0 ts).set j (.int v))) = m_ws ad dA (m_put h k j v) := by
  refine m_ws_set hk ?_ (fun k' e => if_neg e) (fun _ _ => rfl)
  show Sum.inr (ci, m_flds ad (m_put h k j v) k 0 ts) = _
  refine congrArg (fun z => Sum.inr (ci, z)) ?_
  apply List.ext_getElem?
  intro i
  have hl : j < (m_flds ad h k 0 ts).length := by rw [m_flds_len]; exact (List.getElem?_eq_some_iff.mp ht).1
  have hp : (m_put h k j v).1 k = upd (h.1 k) j v := if_pos rfl
  by_cases e : i = j
  · subst e
    rw [List.getElem?_set_self hl, m_flds_get, ht]
    show some (Value.int ((m_put h k i v).1 k (0 + i))) = _
    rw [hp, Nat.zero_add, pk_us]
  · rw [List.getElem?_set_ne (Ne.symm e), m_flds_get, m_flds_get]
    cases ts[i]? with
    | none => rfl
    | some t =>
      show some _ = some _
      refine congrArg some ?_
      match t with
      | 0 => show Value.int ((m_put h k j v).1 k (0 + i)) = Value.int (h.1 k (0 + i)); rw [hp, pk_un (by omega)]
      | 1 => rfl
      | t + 2 => rfl
theorem m_ws_putFL {ad : Nat → Nat} {dA : Nat → ClassId} {h : MH} {k ci j : Nat} {ts : List Nat} {v : Int64} (hk : m_lay[k]? = some (.inr (ci, ts))) (ht : ts[j]? = some 1) : (m_ws ad dA h).set k (ad k, .inr (ci, (m_flds ad h k 0 ts).set j (.long v))) = m_ws ad dA (m_putL h k j v) := by
  refine m_ws_set hk ?_ (fun _ _ => rfl) (fun k' e => if_neg e)
  show Sum.inr (ci, m_flds ad (m_putL h k j v) k 0 ts) = _
  refine congrArg (fun z => Sum.inr (ci, z)) ?_
  apply List.ext_getElem?
  intro i
  have hl : j < (m_flds ad h k 0 ts).length := by rw [m_flds_len]; exact (List.getElem?_eq_some_iff.mp ht).1
  have hp : (m_putL h k j v).2 k = vp_updL (h.2 k) j v := if_pos rfl
  by_cases e : i = j
  · subst e
    rw [List.getElem?_set_self hl, m_flds_get, ht]
    show some (Value.long ((m_putL h k i v).2 k (0 + i))) = _
    rw [hp, Nat.zero_add, pk_uLs]
  · rw [List.getElem?_set_ne (Ne.symm e), m_flds_get, m_flds_get]
    cases ts[i]? with
    | none => rfl
    | some t =>
      show some _ = some _
      refine congrArg some ?_
      match t with
      | 0 => rfl
      | 1 => show Value.long ((m_putL h k j v).2 k (0 + i)) = Value.long (h.2 k (0 + i)); rw [hp, pk_uLn (by omega)]
      | t + 2 => rfl
theorem m_ws_putAr {ad : Nat → Nat} {dA : Nat → ClassId} {h : MH} {k kd n : Nat} {rs : List Nat} {f : Nat → Int32} (hk : m_lay[k]? = some (.inl (kd, n, rs))) (hd : kd < 2) : (m_ws ad dA h).set k (ad k, .inl (dA kd, n, .inl f)) = m_ws ad dA (m_putA h k f) := by
  refine m_ws_set hk ?_ (fun k' e => if_neg e) (fun _ _ => rfl)
  have hp : (m_putA h k f).1 k = f := if_pos rfl
  match kd, hd with
  | 0, _ => show Sum.inl (dA 0, n, Sum.inl ((m_putA h k f).1 k)) = _; rw [hp]
  | 1, _ => show Sum.inl (dA 1, n, Sum.inl ((m_putA h k f).1 k)) = _; rw [hp]
theorem m_ws_putArL {ad : Nat → Nat} {dA : Nat → ClassId} {h : MH} {k n : Nat} {rs : List Nat} {f : Nat → Int64} (hk : m_lay[k]? = some (.inl (2, n, rs))) : (m_ws ad dA h).set k (ad k, .inl (dA 2, n, .inr (.inl f))) = m_ws ad dA (m_putAL h k f) := by
  refine m_ws_set hk ?_ (fun _ _ => rfl) (fun k' e => if_neg e)
  have hp : (m_putAL h k f).2 k = f := if_pos rfl
  show Sum.inl (dA 2, n, Sum.inr (Sum.inl ((m_putAL h k f).2 k))) = _; rw [hp]
/-! locals by their places -/
def m_prs (ad : Nat → Nat) : Nat → List (Option Value) → List (Nat × Value)
  | _, [] => []
  | i, none :: l => m_prs ad (i + 1) l
  | i, some v :: l => (i, m_v ad v) :: m_prs ad (i + 1) l
theorem m_prs_mem {ad : Nat → Nat} : ∀ (l : List (Option Value)) (i : Nat) (q : Nat × Value), q ∈ m_prs ad i l ↔ ∃ (k : Nat) (v : Value), l[k]? = some (some v) ∧ q = (i + k, m_v ad v)
  | [], i, q => by simp [m_prs]
  | none :: l, i, q => by
    rw [show m_prs ad i (none :: l) = m_prs ad (i + 1) l from rfl, m_prs_mem l (i + 1) q]
    constructor
    · rintro ⟨k, v, h1, h2⟩
      exact ⟨k + 1, v, h1, by rw [h2]; congr 1; omega⟩
    · rintro ⟨k, v, h1, h2⟩
      cases k with
      | zero => simp at h1
      | succ k => exact ⟨k, v, h1, by rw [h2]; congr 1; omega⟩
  | some w :: l, i, q => by
    rw [show m_prs ad i (some w :: l) = (i, m_v ad w) :: m_prs ad (i + 1) l from rfl, List.mem_cons, m_prs_mem l (i + 1) q]
    constructor
    · rintro (h | ⟨k, v, h1, h2⟩)
      · exact ⟨0, w, rfl, by rw [h]; rfl⟩
      · exact ⟨k + 1, v, h1, by rw [h2]; congr 1; omega⟩
    · rintro ⟨k, v, h1, h2⟩
      cases k with
      | zero => simp at h1; subst h1; exact Or.inl h2
      | succ k => exact Or.inr ⟨k, v, h1, by rw [h2]; congr 1; omega⟩
theorem m_has_at {ad : Nat → Nat} {ls : Array Slot} {n : Nat} {lv : List (Option Value)} (hl : lv_has ls n (m_prs ad 0 lv)) {i : Nat} {v : Value} (h : lv[i]? = some (some v)) : ls[i]? = some (.val (m_v ad v)) :=
  hl.2.2 (i, m_v ad v) ((m_prs_mem lv 0 _).mpr ⟨i, v, h, by simp⟩)
theorem m_has_sub {ls : Array Slot} {n : Nat} {l l' : List (Nat × Value)} (h : lv_has ls n l) (hs : ∀ q ∈ l', q ∈ l) : lv_has ls n l' := ⟨h.1, h.2.1, fun q hq => h.2.2 q (hs q hq)⟩
/-- no long begins at the place before i -/
def m_nl (lv : List (Option Value)) (i : Nat) : Bool := match i with
  | 0 => true
  | k + 1 => match lv[k]? with
    | some (some v) => !(v.category == 2)
    | _ => true
theorem m_set1 {ad : Nat → Nat} {lv : List (Option Value)} {i : Nat} {v : Value} (hn : m_nl lv i = true) : ∀ q ∈ m_prs ad 0 (lv.set i (some v)), q ∈ ((i, m_v ad v) :: (m_prs ad 0 lv).filter (fun q => !(q.1 == i) && !(q.1 + 1 == i && q.2.category == 2)) : List (Nat × Value)) := by
  intro q hq
  obtain ⟨k, w, h1, h2⟩ := (m_prs_mem _ 0 q).mp hq
  rw [Nat.zero_add] at h2
  by_cases e : k = i
  · subst e
    have hl : k < lv.length := by have := (List.getElem?_eq_some_iff.mp h1).1; simpa using this
    rw [List.getElem?_set_self hl] at h1
    simp at h1
    subst h1
    rw [h2]
    exact List.mem_cons_self
  · rw [List.getElem?_set_ne (Ne.symm e)] at h1
    refine List.mem_cons_of_mem _ (List.mem_filter.mpr ⟨(m_prs_mem lv 0 q).mpr ⟨k, w, h1, by rw [h2, Nat.zero_add]⟩, ?_⟩)
    rw [h2]
    simp only [m_v_cat]
    by_cases e2 : k + 1 = i
    · subst e2
      simp only [m_nl, h1] at hn
      simp at hn
      simp [hn]
    · simp [e, e2]
theorem m_set2 {ad : Nat → Nat} {lv : List (Option Value)} {i : Nat} {v : Value} (hn : m_nl lv i = true) : ∀ q ∈ m_prs ad 0 ((lv.set i (some v)).set (i + 1) none), q ∈ ((i, m_v ad v) :: (m_prs ad 0 lv).filter (fun q => !(q.1 == i) && (!(q.1 == i + 1) && !(q.1 + 1 == i && q.2.category == 2))) : List (Nat × Value)) := by
  intro q hq
  obtain ⟨k, w, h1, h2⟩ := (m_prs_mem _ 0 q).mp hq
  rw [Nat.zero_add] at h2
  by_cases e3 : k = i + 1
  · subst e3
    have hl : i + 1 < (lv.set i (some v)).length := (by have := (List.getElem?_eq_some_iff.mp h1).1; simpa using this)
    rw [List.getElem?_set_self hl] at h1
    cases h1
  rw [List.getElem?_set_ne (Ne.symm e3)] at h1
  by_cases e : k = i
  · subst e
    have hl : k < lv.length := by have := (List.getElem?_eq_some_iff.mp h1).1; simpa using this
    rw [List.getElem?_set_self hl] at h1
    simp at h1
    subst h1
    rw [h2]
    exact List.mem_cons_self
  · rw [List.getElem?_set_ne (Ne.symm e)] at h1
    refine List.mem_cons_of_mem _ (List.mem_filter.mpr ⟨(m_prs_mem lv 0 q).mpr ⟨k, w, h1, by rw [h2, Nat.zero_add]⟩, ?_⟩)
    rw [h2]
    simp only [m_v_cat]
    by_cases e2 : k + 1 = i
    · subst e2
      simp only [m_nl, h1] at hn
      simp at hn
      simp [hn]; omega
    · simp [e, e2, e3]
/-! the judgements -/
def m_rm (d : Nat) : Room := { frames := d, cells := 0, slots := 0, locals := 64 * d }
def m_A (ad : Nat → Nat) (sz : Nat) : Nat → Prop := fun q => (∃ k, k < m_lay.length ∧ q = ad k) ∨ sz ≤ q
def m_Post (G : MG) (A : Nat → Prop) (Q : Option Value → MH → Prop) : Array Value → State → Outcome → State → Prop := fun _ st oc t => (∃ (rv : Option Value) (h : MH), oc = .returned (rv.map (m_v G.2.2.2)) ∧ Q rv h ∧ va_P G.2.1 m_cls (m_ws G.2.2.2 G.2.2.1 h) t.heap ∧ va_K G.2.1 m_cls (m_tys G.2.2.1) t ∧ va_D A (m_ws G.2.2.2 G.2.2.1 h)) ∧ va_F A st t
def m_Ok (G : MG) (M : MI) (p : Program) (s : State) (m : MethodId) (args : Array Value) (meth : Method) (c : Code) (A : Nat → Prop) : Prop :=
  p.tables.exec = Jvm.exec ∧ c.code = M.2.1 ∧ meth.sig.returnType = M.2.2.2 ∧ c.maxLocals = M.2.2.1 ∧ s.vm.findClass M.1.cls = some m.cls ∧ (∀ w ∈ m_tbl, w.before args s = true) ∧ meth.locks = false ∧ va_K G.2.1 m_cls (m_tys G.2.2.1) s ∧ (∀ q, s.heap.size ≤ q → A q)
/-- from this place of the method M, with these locals, this stack and this heap, it comes to its end with Q -/
def Ev (G : MG) (d : Nat) (M : MI) (pc : Nat) (lv : List (Option Value)) (st : List Value) (h : MH) (Q : Option Value → MH → Prop) : Prop :=
  ∀ (p : Program) (e : Env) (s : State) (m : MethodId) (args : Array Value) (below : List Frame) (meth : Method) (c : Code) (A : Nat → Prop) (H : Heap) (locs : List Loc) (ls : Array Slot),
    m_Ok G M p s m args meth c A → va_P G.2.1 m_cls (m_ws G.2.2.2 G.2.2.1 h) H → va_D A (m_ws G.2.2.2 G.2.2.1 h) → va_S A s.heap H locs → lv_has ls M.2.2.1 (m_prs G.2.2.2 0 lv) →
    W p G.1 e (m_rm d) s m args below meth c H locs 0 0 (MQ below (m_Post G A Q) args s 0 0 A) (F0 m pc ls (st.map (m_v G.2.2.2)))
/-- the method M, called with these arguments in this heap, comes back with Q -/
def Cl (G : MG) (d : Nat) (M : MI) (av : List Value) (h : MH) (Q : Option Value → MH → Prop) : Prop :=
  ∀ sz : Nat, Met G.1 M.1 (.code M.1 M.2.1 M.2.2.1 M.2.2.2 :: m_tbl) (m_rm d) (va_Pc (av.map (m_v G.2.2.2)) (fun U => U.heap.size = sz ∧ va_P G.2.1 m_cls (m_ws G.2.2.2 G.2.2.1 h) U.heap ∧ va_K G.2.1 m_cls (m_tys G.2.2.1) U ∧ va_D (fun _ => True) (m_ws G.2.2.2 G.2.2.1 h))) (m_Post G (m_A G.2.2.2 sz) Q) 0 0 (m_A G.2.2.2 sz)
theorem m_A_ws {ad : Nat → Nat} {dA : Nat → ClassId} {h : MH} {sz k : Nat} {q : Nat × va_E} (hk : (m_ws ad dA h)[k]? = some q) : m_A ad sz q.1 := by
  obtain ⟨x, h1, h2⟩ := m_ws_at hk
  exact Or.inl ⟨k, (List.getElem?_eq_some_iff.mp h1).1, by rw [h2]⟩
theorem m_A_sub {ad : Nat → Nat} {dA : Nat → ClassId} {h : MH} {A : Nat → Prop} {H0 H : Heap} {locs : List Loc} (hD : va_D A (m_ws ad dA h)) (hS : va_S A H0 H locs) (hA : ∀ q, H0.size ≤ q → A q) : ∀ q, m_A ad H.size q → A q := by
  rintro q (⟨k, hk, rfl⟩ | hq)
  · exact hD.2 k _ (m_ws_get (List.getElem?_eq_getElem hk))
  · exact hA q (Nat.le_trans hS.1 hq)
def m_args : List Value → List (Option Value)
  | [] => []
  | v :: vs => if v.category = 2 then some v :: none :: m_args vs else some v :: m_args vs
theorem m_args_sub {ad : Nat → Nat} {n : Nat} : ∀ (av : List Value) (i : Nat), ∀ q ∈ m_prs ad i (m_args av ++ List.replicate n none), q ∈ lv_args i (av.map (m_v ad))
  | [], i, q, hq => by
    obtain ⟨k, v, h1, -⟩ := (m_prs_mem _ i q).mp hq
    rw [show m_args [] = [] from rfl, List.nil_append, List.getElem?_replicate] at h1
    split at h1
    · cases h1
    · cases h1
  | v :: vs, i, q, hq => by
    rw [List.map_cons, show lv_args i (m_v ad v :: vs.map (m_v ad)) = (i, m_v ad v) :: lv_args (if (m_v ad v).category = 2 then i + 2 else i + 1) (vs.map (m_v ad)) from rfl, m_v_cat]
    by_cases hc : v.category = 2
    · rw [show m_args (v :: vs) = some v :: none :: m_args vs from if_pos hc] at hq
      rw [if_pos hc]
      rcases List.mem_cons.mp (show q ∈ (i, m_v ad v) :: m_prs ad (i + 1 + 1) (m_args vs ++ List.replicate n none) from hq) with h | h
      · rw [h]; exact List.mem_cons_self
      · exact List.mem_cons_of_mem _ (m_args_sub vs (i + 2) q h)
    · rw [show m_args (v :: vs) = some v :: m_args vs from if_neg hc] at hq
      rw [if_neg hc]
      rcases List.mem_cons.mp (show q ∈ (i, m_v ad v) :: m_prs ad (i + 1) (m_args vs ++ List.replicate n none) from hq) with h | h
      · rw [h]; exact List.mem_cons_self
      · exact List.mem_cons_of_mem _ (m_args_sub vs (i + 1) q h)
theorem ev_start {G : MG} {d : Nat} {M : MI} {av : List Value} {h : MH} {Q : Option Value → MH → Prop} (n : Nat) {lv : List (Option Value)} (hlv : m_args av ++ List.replicate n none = lv) (hy : plainName M.1.cls = true) (hlen : (lg_sl (av.map (m_v G.2.2.2))).length ≤ M.2.2.1) (k : Ev G d M 0 lv [] h Q) : Cl G d M av h Q := by
  intro sz
  refine Met.ofW (cc := M.2.1) (maxL := M.2.2.1) (ret := M.2.2.2) hy rfl ?_
  intro p e s m args below meth c s₁ B hml hv
  obtain ⟨rfl, hsz, hP, hK, hD0⟩ := hv
  subst hsz
  have hts := atoms_spec (ws := .code M.1 M.2.1 M.2.2.1 M.2.2.2 :: m_tbl) B.pre
  have hl := lv_entry (av.map (m_v G.2.2.2)) (n := M.2.2.1) hlen
  rw [lg_entry_eq]
  generalize (lg_sl (av.map (m_v G.2.2.2)) ++ List.replicate (M.2.2.1 - (lg_sl (av.map (m_v G.2.2.2))).length) Slot.unset).toArray = ls at hl ⊢
  subst hlv
  exact k p e s m _ below meth c (m_A G.2.2.2 s.heap.size) s.heap [] ls ⟨B.exec, B.bytes, B.returns, hml, findClass_of_methodNamed B.named, fun w hw => hts w (List.mem_cons_of_mem _ hw), B.notSynchronized, hK, fun q hq => Or.inr hq⟩ hP ⟨hD0.1, fun k q hk => m_A_ws hk⟩ va_S.rf (m_has_sub hl (m_args_sub av 0))
section RULES
variable {G : MG} {d : Nat} {M : MI} {pc : Nat} {lv : List (Option Value)} {st : List Value} {h : MH} {Q : Option Value → MH → Prop}
theorem ev_pc {pc' : Nat} (hpc : pc' = pc) (k : Ev G d M pc lv st h Q) : Ev G d M pc' lv st h Q := by rw [hpc]; exact k
theorem ev_goto {off : Int} (tgt : Nat) (hd : decode M.2.1 pc = .ok (.goto off, 3)) (ht : (pc : Int) + off = (tgt : Int)) (k : Ev G d M tgt lv st h Q) : Ev G d M pc lv st h Q := by
  intro p e s m args below meth c A H locs ls O hP hD hS hl
  exact lv_goto O.1 O.2.1 hd ht (k p e s m args below meth c A H locs ls O hP hD hS hl)
theorem ev_iadd {x y : Int32} (hd : decode M.2.1 pc = .ok (.iadd, 1)) (k : Ev G d M (pc + 1) lv (.int (x + y) :: st) h Q) : Ev G d M pc lv (.int y :: .int x :: st) h Q := by
  intro p e s m args below meth c A H locs ls O hP hD hS hl
  exact lv_iadd O.1 O.2.1 hd (k p e s m args below meth c A H locs ls O hP hD hS hl)
theorem ev_isub {x y : Int32} (hd : decode M.2.1 pc = .ok (.isub, 1)) (k : Ev G d M (pc + 1) lv (.int (x - y) :: st) h Q) : Ev G d M pc lv (.int y :: .int x :: st) h Q := by
  intro p e s m args below meth c A H locs ls O hP hD hS hl
  exact lv_isub O.1 O.2.1 hd (k p e s m args below meth c A H locs ls O hP hD hS hl)
theorem ev_imul {x y : Int32} (hd : decode M.2.1 pc = .ok (.imul, 1)) (k : Ev G d M (pc + 1) lv (.int (x * y) :: st) h Q) : Ev G d M pc lv (.int y :: .int x :: st) h Q := by
  intro p e s m args below meth c A H locs ls O hP hD hS hl
  exact lv_imul O.1 O.2.1 hd (k p e s m args below meth c A H locs ls O hP hD hS hl)
theorem ev_iand {x y : Int32} (hd : decode M.2.1 pc = .ok (.iand, 1)) (k : Ev G d M (pc + 1) lv (.int (x &&& y) :: st) h Q) : Ev G d M pc lv (.int y :: .int x :: st) h Q := by
  intro p e s m args below meth c A H locs ls O hP hD hS hl
  exact lv_iand O.1 O.2.1 hd (k p e s m args below meth c A H locs ls O hP hD hS hl)
theorem ev_ior {x y : Int32} (hd : decode M.2.1 pc = .ok (.ior, 1)) (k : Ev G d M (pc + 1) lv (.int (x ||| y) :: st) h Q) : Ev G d M pc lv (.int y :: .int x :: st) h Q := by
  intro p e s m args below meth c A H locs ls O hP hD hS hl
  exact lv_ior O.1 O.2.1 hd (k p e s m args below meth c A H locs ls O hP hD hS hl)
theorem ev_ixor {x y : Int32} (hd : decode M.2.1 pc = .ok (.ixor, 1)) (k : Ev G d M (pc + 1) lv (.int (x ^^^ y) :: st) h Q) : Ev G d M pc lv (.int y :: .int x :: st) h Q := by
  intro p e s m args below meth c A H locs ls O hP hD hS hl
  exact lv_ixor O.1 O.2.1 hd (k p e s m args below meth c A H locs ls O hP hD hS hl)
theorem ev_ishl {x y : Int32} (hd : decode M.2.1 pc = .ok (.ishl, 1)) (k : Ev G d M (pc + 1) lv (.int (x <<< (y &&& 31)) :: st) h Q) : Ev G d M pc lv (.int y :: .int x :: st) h Q := by
  intro p e s m args below meth c A H locs ls O hP hD hS hl
  exact lv_ishl O.1 O.2.1 hd (k p e s m args below meth c A H locs ls O hP hD hS hl)
theorem ev_ishr {x y : Int32} (hd : decode M.2.1 pc = .ok (.ishr, 1)) (k : Ev G d M (pc + 1) lv (.int (x >>> (y &&& 31)) :: st) h Q) : Ev G d M pc lv (.int y :: .int x :: st) h Q := by
  intro p e s m args below meth c A H locs ls O hP hD hS hl
  exact lv_ishr O.1 O.2.1 hd (k p e s m args below meth c A H locs ls O hP hD hS hl)
theorem ev_ladd {x y : Int64} (hd : decode M.2.1 pc = .ok (.ladd, 1)) (k : Ev G d M (pc + 1) lv (.long (x + y) :: st) h Q) : Ev G d M pc lv (.long y :: .long x :: st) h Q := by
  intro p e s m args below meth c A H locs ls O hP hD hS hl
  exact lv_ladd O.1 O.2.1 hd (k p e s m args below meth c A H locs ls O hP hD hS hl)
theorem ev_lsub {x y : Int64} (hd : decode M.2.1 pc = .ok (.lsub, 1)) (k : Ev G d M (pc + 1) lv (.long (x - y) :: st) h Q) : Ev G d M pc lv (.long y :: .long x :: st) h Q := by
  intro p e s m args below meth c A H locs ls O hP hD hS hl
  exact lv_lsub O.1 O.2.1 hd (k p e s m args below meth c A H locs ls O hP hD hS hl)
theorem ev_lmul {x y : Int64} (hd : decode M.2.1 pc = .ok (.lmul, 1)) (k : Ev G d M (pc + 1) lv (.long (x * y) :: st) h Q) : Ev G d M pc lv (.long y :: .long x :: st) h Q := by
  intro p e s m args below meth c A H locs ls O hP hD hS hl
  exact lv_lmul O.1 O.2.1 hd (k p e s m args below meth c A H locs ls O hP hD hS hl)
theorem ev_land {x y : Int64} (hd : decode M.2.1 pc = .ok (.land, 1)) (k : Ev G d M (pc + 1) lv (.long (x &&& y) :: st) h Q) : Ev G d M pc lv (.long y :: .long x :: st) h Q := by
  intro p e s m args below meth c A H locs ls O hP hD hS hl
  exact lv_land O.1 O.2.1 hd (k p e s m args below meth c A H locs ls O hP hD hS hl)
theorem ev_lor {x y : Int64} (hd : decode M.2.1 pc = .ok (.lor, 1)) (k : Ev G d M (pc + 1) lv (.long (x ||| y) :: st) h Q) : Ev G d M pc lv (.long y :: .long x :: st) h Q := by
  intro p e s m args below meth c A H locs ls O hP hD hS hl
  exact lv_lor O.1 O.2.1 hd (k p e s m args below meth c A H locs ls O hP hD hS hl)
theorem ev_lxor {x y : Int64} (hd : decode M.2.1 pc = .ok (.lxor, 1)) (k : Ev G d M (pc + 1) lv (.long (x ^^^ y) :: st) h Q) : Ev G d M pc lv (.long y :: .long x :: st) h Q := by
  intro p e s m args below meth c A H locs ls O hP hD hS hl
  exact lv_lxor O.1 O.2.1 hd (k p e s m args below meth c A H locs ls O hP hD hS hl)
theorem ev_iushr {x y v : Int32} (hd : decode M.2.1 pc = .ok (.iushr, 1)) (hv : (x.toUInt32 >>> (y.toUInt32 &&& Int32.toUInt32 31)).toInt32 = v) (k : Ev G d M (pc + 1) lv (.int v :: st) h Q) : Ev G d M pc lv (.int y :: .int x :: st) h Q := by
  intro p e s m args below meth c A H locs ls O hP hD hS hl
  exact lv_iushr O.1 O.2.1 hd hv (k p e s m args below meth c A H locs ls O hP hD hS hl)
theorem ev_lushr {x v : Int64} {y : Int32} (hd : decode M.2.1 pc = .ok (.lushr, 1)) (hv : (x.toUInt64 >>> (y.toInt64.toUInt64 &&& Int64.toUInt64 63)).toInt64 = v) (k : Ev G d M (pc + 1) lv (.long v :: st) h Q) : Ev G d M pc lv (.int y :: .long x :: st) h Q := by
  intro p e s m args below meth c A H locs ls O hP hD hS hl
  exact lv_lushr O.1 O.2.1 hd hv (k p e s m args below meth c A H locs ls O hP hD hS hl)
theorem ev_lshl {x v : Int64} {y : Int32} (hd : decode M.2.1 pc = .ok (.lshl, 1)) (hv : x <<< (y.toInt64 &&& 63) = v) (k : Ev G d M (pc + 1) lv (.long v :: st) h Q) : Ev G d M pc lv (.int y :: .long x :: st) h Q := by
  intro p e s m args below meth c A H locs ls O hP hD hS hl
  exact lv_lshl O.1 O.2.1 hd hv (k p e s m args below meth c A H locs ls O hP hD hS hl)
theorem ev_idiv {x y : Int32} (hd : decode M.2.1 pc = .ok (.idiv, 1)) (hy : ¬ y = 0) (k : Ev G d M (pc + 1) lv (.int (x / y) :: st) h Q) : Ev G d M pc lv (.int y :: .int x :: st) h Q := by
  intro p e s m args below meth c A H locs ls O hP hD hS hl
  exact lv_idiv O.1 O.2.1 hd hy (k p e s m args below meth c A H locs ls O hP hD hS hl)
theorem ev_irem {x y : Int32} (hd : decode M.2.1 pc = .ok (.irem, 1)) (hy : ¬ y = 0) (k : Ev G d M (pc + 1) lv (.int (x - x / y * y) :: st) h Q) : Ev G d M pc lv (.int y :: .int x :: st) h Q := by
  intro p e s m args below meth c A H locs ls O hP hD hS hl
  exact lv_irem O.1 O.2.1 hd hy (k p e s m args below meth c A H locs ls O hP hD hS hl)
theorem ev_ldiv {x y : Int64} (hd : decode M.2.1 pc = .ok (.ldiv, 1)) (hy : ¬ y = 0) (k : Ev G d M (pc + 1) lv (.long (x / y) :: st) h Q) : Ev G d M pc lv (.long y :: .long x :: st) h Q := by
  intro p e s m args below meth c A H locs ls O hP hD hS hl
  exact lv_ldiv O.1 O.2.1 hd hy (k p e s m args below meth c A H locs ls O hP hD hS hl)
theorem ev_lcmp {x y : Int64} (hd : decode M.2.1 pc = .ok (.lcmp, 1)) (k : Ev G d M (pc + 1) lv (.int (lg_cmp x y) :: st) h Q) : Ev G d M pc lv (.long y :: .long x :: st) h Q := by
  intro p e s m args below meth c A H locs ls O hP hD hS hl
  exact W.lcmp O.1 O.2.1 hd (k p e s m args below meth c A H locs ls O hP hD hS hl)
theorem ev_i2l {x : Int32} {v : Int64} (hd : decode M.2.1 pc = .ok (.i2l, 1)) (hv : x.toInt64 = v) (k : Ev G d M (pc + 1) lv (.long v :: st) h Q) : Ev G d M pc lv (.int x :: st) h Q := by
  intro p e s m args below meth c A H locs ls O hP hD hS hl
  exact lv_i2l O.1 O.2.1 hd hv (k p e s m args below meth c A H locs ls O hP hD hS hl)
theorem ev_l2i {x : Int64} {v : Int32} (hd : decode M.2.1 pc = .ok (.l2i, 1)) (hv : x.toInt32 = v) (k : Ev G d M (pc + 1) lv (.int v :: st) h Q) : Ev G d M pc lv (.long x :: st) h Q := by
  intro p e s m args below meth c A H locs ls O hP hD hS hl
  exact lv_l2i O.1 O.2.1 hd hv (k p e s m args below meth c A H locs ls O hP hD hS hl)
theorem ev_iconst {n : Int} (v : Int32) (hd : decode M.2.1 pc = .ok (.iconst n, 1)) (hv : Int32.ofInt n = v) (k : Ev G d M (pc + 1) lv (.int v :: st) h Q) : Ev G d M pc lv (st) h Q := by
  intro p e s m args below meth c A H locs ls O hP hD hS hl
  exact lv_iconst O.1 O.2.1 hd hv (k p e s m args below meth c A H locs ls O hP hD hS hl)
theorem ev_bipush {n : Int} (v : Int32) (hd : decode M.2.1 pc = .ok (.bipush n, 2)) (hv : (Int8.ofInt n).toInt32 = v) (k : Ev G d M (pc + 2) lv (.int v :: st) h Q) : Ev G d M pc lv (st) h Q := by
  intro p e s m args below meth c A H locs ls O hP hD hS hl
  exact lv_bipush O.1 O.2.1 hd hv (k p e s m args below meth c A H locs ls O hP hD hS hl)
theorem ev_sipush {n : Int} (v : Int32) (hd : decode M.2.1 pc = .ok (.sipush n, 3)) (hv : (Int16.ofInt n).toInt32 = v) (k : Ev G d M (pc + 3) lv (.int v :: st) h Q) : Ev G d M pc lv (st) h Q := by
  intro p e s m args below meth c A H locs ls O hP hD hS hl
  exact lv_sipush O.1 O.2.1 hd hv (k p e s m args below meth c A H locs ls O hP hD hS hl)
theorem ev_lconst {n : Fin 2} (v : Int64) (hd : decode M.2.1 pc = .ok (.lconst n, 1)) (hv : Int64.ofNat (n : Nat) = v) (k : Ev G d M (pc + 1) lv (.long v :: st) h Q) : Ev G d M pc lv (st) h Q := by
  intro p e s m args below meth c A H locs ls O hP hD hS hl
  exact lv_lconst O.1 O.2.1 hd hv (k p e s m args below meth c A H locs ls O hP hD hS hl)
theorem ev_ldc2 {idx : Nat} (v : Int64) (hd : decode M.2.1 pc = .ok (.ldc2_w idx, 3)) (hw : Cond.constantLong M.1.cls idx v ∈ m_tbl) (k : Ev G d M (pc + 3) lv (.long v :: st) h Q) : Ev G d M pc lv (st) h Q := by
  intro p e s m args below meth c A H locs ls O hP hD hS hl
  exact lv_ldc2 O.1 O.2.1 O.2.2.2.2.1 (O.2.2.2.2.2.1 _ hw) hd (k p e s m args below meth c A H locs ls O hP hD hS hl)
theorem ev_ldcw {idx : Nat} (v : Int32) (hd : decode M.2.1 pc = .ok (.ldc_w idx, 3)) (hw : Cond.constant M.1.cls idx v ∈ m_tbl) (k : Ev G d M (pc + 3) lv (.int v :: st) h Q) : Ev G d M pc lv (st) h Q := by
  intro p e s m args below meth c A H locs ls O hP hD hS hl
  exact lv_ldcw O.1 O.2.1 O.2.2.2.2.1 (O.2.2.2.2.2.1 _ hw) hd (k p e s m args below meth c A H locs ls O hP hD hS hl)
theorem ev_dup {v : Value} (hd : decode M.2.1 pc = .ok (.dup, 1)) (hv : v.category = 1) (k : Ev G d M (pc + 1) lv (v :: v :: st) h Q) : Ev G d M pc lv (v :: st) h Q := by
  intro p e s m args below meth c A H locs ls O hP hD hS hl
  exact lv_dup O.1 O.2.1 hd (by rw [m_v_cat]; exact hv) (k p e s m args below meth c A H locs ls O hP hD hS hl)
theorem ev_dup2 {v w : Value} (hd : decode M.2.1 pc = .ok (.dup2, 1)) (hv : v.category = 1) (hw : w.category = 1) (k : Ev G d M (pc + 1) lv (v :: w :: v :: w :: st) h Q) : Ev G d M pc lv (v :: w :: st) h Q := by
  intro p e s m args below meth c A H locs ls O hP hD hS hl
  exact lv_dup2_11 O.1 O.2.1 hd (by rw [m_v_cat]; exact hv) (by rw [m_v_cat]; exact hw) (k p e s m args below meth c A H locs ls O hP hD hS hl)
theorem ev_pop {v : Value} (hd : decode M.2.1 pc = .ok (.pop, 1)) (hv : v.category = 1) (k : Ev G d M (pc + 1) lv (st) h Q) : Ev G d M pc lv (v :: st) h Q := by
  intro p e s m args below meth c A H locs ls O hP hD hS hl
  exact lv_pop O.1 O.2.1 hd (by rw [m_v_cat]; exact hv) (k p e s m args below meth c A H locs ls O hP hD hS hl)
theorem ev_iload_n {i : Fin 4} {x : Int32} (hd : decode M.2.1 pc = .ok (.iload_n i, 1)) (hx : lv[(i : Nat)]? = some (some (.int x))) (k : Ev G d M (pc + 1) lv (.int x :: st) h Q) : Ev G d M pc lv (st) h Q := by
  intro p e s m args below meth c A H locs ls O hP hD hS hl
  exact lv_iload_n O.1 O.2.1 hd rfl (m_has_at hl hx) (k p e s m args below meth c A H locs ls O hP hD hS hl)
theorem ev_iload {i : Nat} {x : Int32} (hd : decode M.2.1 pc = .ok (.iload i, 2)) (hx : lv[i]? = some (some (.int x))) (k : Ev G d M (pc + 2) lv (.int x :: st) h Q) : Ev G d M pc lv (st) h Q := by
  intro p e s m args below meth c A H locs ls O hP hD hS hl
  exact lv_iload O.1 O.2.1 hd (m_has_at hl hx) (k p e s m args below meth c A H locs ls O hP hD hS hl)
theorem ev_istore_n {i : Fin 4} {x : Int32} {lv' : List (Option Value)} (hd : decode M.2.1 pc = .ok (.istore_n i, 1)) (hn : (i : Nat) < M.2.2.1) (hc : m_nl lv (i : Nat) = true) (hs : lv.set (i : Nat) (some (.int x)) = lv') (k : Ev G d M (pc + 1) lv' st h Q) : Ev G d M pc lv (.int x :: st) h Q := by
  intro p e s m args below meth c A H locs ls O hP hD hS hl
  subst hs
  exact lv_istore_n O.1 O.2.1 hd rfl hl hn rfl (fun ls' hl' => k p e s m args below meth c A H locs ls' O hP hD hS (m_has_sub hl' (m_set1 hc)))
theorem ev_istore {i : Nat} {x : Int32} {lv' : List (Option Value)} (hd : decode M.2.1 pc = .ok (.istore i, 2)) (hn : (i : Nat) < M.2.2.1) (hc : m_nl lv (i : Nat) = true) (hs : lv.set (i : Nat) (some (.int x)) = lv') (k : Ev G d M (pc + 2) lv' st h Q) : Ev G d M pc lv (.int x :: st) h Q := by
  intro p e s m args below meth c A H locs ls O hP hD hS hl
  subst hs
  exact lv_istore O.1 O.2.1 hd hl hn rfl (fun ls' hl' => k p e s m args below meth c A H locs ls' O hP hD hS (m_has_sub hl' (m_set1 hc)))
theorem ev_lload_n {i : Fin 4} {x : Int64} (hd : decode M.2.1 pc = .ok (.lload_n i, 1)) (hx : lv[(i : Nat)]? = some (some (.long x))) (k : Ev G d M (pc + 1) lv (.long x :: st) h Q) : Ev G d M pc lv (st) h Q := by
  intro p e s m args below meth c A H locs ls O hP hD hS hl
  exact lv_lload_n O.1 O.2.1 hd rfl (m_has_at hl hx) (k p e s m args below meth c A H locs ls O hP hD hS hl)
theorem ev_lload {i : Nat} {x : Int64} (hd : decode M.2.1 pc = .ok (.lload i, 2)) (hx : lv[i]? = some (some (.long x))) (k : Ev G d M (pc + 2) lv (.long x :: st) h Q) : Ev G d M pc lv (st) h Q := by
  intro p e s m args below meth c A H locs ls O hP hD hS hl
  exact lv_lload O.1 O.2.1 hd (m_has_at hl hx) (k p e s m args below meth c A H locs ls O hP hD hS hl)
theorem ev_lstore_n {i : Fin 4} {x : Int64} {lv' : List (Option Value)} (hd : decode M.2.1 pc = .ok (.lstore_n i, 1)) (hn : (i : Nat) + 1 < M.2.2.1) (hc : m_nl lv (i : Nat) = true) (hs : (lv.set (i : Nat) (some (.long x))).set ((i : Nat) + 1) none = lv') (k : Ev G d M (pc + 1) lv' st h Q) : Ev G d M pc lv (.long x :: st) h Q := by
  intro p e s m args below meth c A H locs ls O hP hD hS hl
  subst hs
  exact lv_lstore_n O.1 O.2.1 hd rfl hl hn rfl (fun ls' hl' => k p e s m args below meth c A H locs ls' O hP hD hS (m_has_sub hl' (m_set2 hc)))
theorem ev_lstore {i : Nat} {x : Int64} {lv' : List (Option Value)} (hd : decode M.2.1 pc = .ok (.lstore i, 2)) (hn : (i : Nat) + 1 < M.2.2.1) (hc : m_nl lv (i : Nat) = true) (hs : (lv.set (i : Nat) (some (.long x))).set ((i : Nat) + 1) none = lv') (k : Ev G d M (pc + 2) lv' st h Q) : Ev G d M pc lv (.long x :: st) h Q := by
  intro p e s m args below meth c A H locs ls O hP hD hS hl
  subst hs
  exact lv_lstore O.1 O.2.1 hd hl hn rfl (fun ls' hl' => k p e s m args below meth c A H locs ls' O hP hD hS (m_has_sub hl' (m_set2 hc)))
theorem ev_aload_n {i : Fin 4} {x : Nat} (hd : decode M.2.1 pc = .ok (.aload_n i, 1)) (hx : lv[(i : Nat)]? = some (some (.ref x))) (k : Ev G d M (pc + 1) lv (.ref x :: st) h Q) : Ev G d M pc lv (st) h Q := by
  intro p e s m args below meth c A H locs ls O hP hD hS hl
  exact lv_aload_n O.1 O.2.1 hd rfl (m_has_at hl hx) (k p e s m args below meth c A H locs ls O hP hD hS hl)
theorem ev_aload {i : Nat} {x : Nat} (hd : decode M.2.1 pc = .ok (.aload i, 2)) (hx : lv[i]? = some (some (.ref x))) (k : Ev G d M (pc + 2) lv (.ref x :: st) h Q) : Ev G d M pc lv (st) h Q := by
  intro p e s m args below meth c A H locs ls O hP hD hS hl
  exact lv_aload O.1 O.2.1 hd (m_has_at hl hx) (k p e s m args below meth c A H locs ls O hP hD hS hl)
theorem ev_astore_n {i : Fin 4} {x : Nat} {lv' : List (Option Value)} (hd : decode M.2.1 pc = .ok (.astore_n i, 1)) (hn : (i : Nat) < M.2.2.1) (hc : m_nl lv (i : Nat) = true) (hs : lv.set (i : Nat) (some (.ref x)) = lv') (k : Ev G d M (pc + 1) lv' st h Q) : Ev G d M pc lv (.ref x :: st) h Q := by
  intro p e s m args below meth c A H locs ls O hP hD hS hl
  subst hs
  exact lv_astore_n O.1 O.2.1 hd rfl hl hn rfl (fun ls' hl' => k p e s m args below meth c A H locs ls' O hP hD hS (m_has_sub hl' (m_set1 hc)))
theorem ev_astore {i : Nat} {x : Nat} {lv' : List (Option Value)} (hd : decode M.2.1 pc = .ok (.astore i, 2)) (hn : (i : Nat) < M.2.2.1) (hc : m_nl lv (i : Nat) = true) (hs : lv.set (i : Nat) (some (.ref x)) = lv') (k : Ev G d M (pc + 2) lv' st h Q) : Ev G d M pc lv (.ref x :: st) h Q := by
  intro p e s m args below meth c A H locs ls O hP hD hS hl
  subst hs
  exact lv_astore O.1 O.2.1 hd hl hn rfl (fun ls' hl' => k p e s m args below meth c A H locs ls' O hP hD hS (m_has_sub hl' (m_set1 hc)))
theorem m_prs_at {ad : Nat → Nat} {lv : List (Option Value)} {i : Nat} {v : Value} (h : lv[i]? = some (some v)) : ∃ k : Nat, (m_prs ad 0 lv)[k]? = some (i, m_v ad v) := by
  have h1 : (i, m_v ad v) ∈ m_prs ad 0 lv := (m_prs_mem lv 0 _).mpr ⟨i, v, h, by simp⟩
  exact List.getElem?_of_mem h1
theorem ev_iinc {i : Nat} {n : Int} {x : Int32} (v : Int32) {lv' : List (Option Value)} (hd : decode M.2.1 pc = .ok (.iinc i n, 3)) (hx : lv[i]? = some (some (.int x))) (hv : x + Int32.ofInt n = v) (hn : i < M.2.2.1) (hc : m_nl lv i = true) (hs : lv.set i (some (.int v)) = lv') (k : Ev G d M (pc + 3) lv' st h Q) : Ev G d M pc lv st h Q := by
  intro p e s m args below meth c A H locs ls O hP hD hS hl
  subst hs
  obtain ⟨j, hj⟩ := m_prs_at (ad := G.2.2.2) hx
  exact lv_iinc O.1 O.2.1 hd hl hj hv hn rfl (fun ls' hl' => k p e s m args below meth c A H locs ls' O hP hD hS (m_has_sub hl' (m_set1 hc)))
theorem ev_if_eq {x : Int32} {off : Int} (tgt : Nat) (hd : decode M.2.1 pc = .ok (.ifCond .eq off, 3)) (ht : (pc : Int) + off = (tgt : Int)) (kt : x = 0 → Ev G d M tgt lv st h Q) (kf : ¬ (x = 0) → Ev G d M (pc + 3) lv st h Q) : Ev G d M pc lv (.int x :: st) h Q := by
  intro p e s m args below meth c A H locs ls O hP hD hS hl
  exact lv_if_eq O.1 O.2.1 hd ht (fun z => kt z p e s m args below meth c A H locs ls O hP hD hS hl) (fun z => kf z p e s m args below meth c A H locs ls O hP hD hS hl)
theorem ev_if_ne {x : Int32} {off : Int} (tgt : Nat) (hd : decode M.2.1 pc = .ok (.ifCond .ne off, 3)) (ht : (pc : Int) + off = (tgt : Int)) (kt : ¬ x = 0 → Ev G d M tgt lv st h Q) (kf : x = 0 → Ev G d M (pc + 3) lv st h Q) : Ev G d M pc lv (.int x :: st) h Q := by
  intro p e s m args below meth c A H locs ls O hP hD hS hl
  exact lv_if_ne O.1 O.2.1 hd ht (fun z => kt z p e s m args below meth c A H locs ls O hP hD hS hl) (fun z => kf z p e s m args below meth c A H locs ls O hP hD hS hl)
theorem ev_if_lt {x : Int32} {off : Int} (tgt : Nat) (hd : decode M.2.1 pc = .ok (.ifCond .lt off, 3)) (ht : (pc : Int) + off = (tgt : Int)) (kt : x < 0 → Ev G d M tgt lv st h Q) (kf : ¬ (x < 0) → Ev G d M (pc + 3) lv st h Q) : Ev G d M pc lv (.int x :: st) h Q := by
  intro p e s m args below meth c A H locs ls O hP hD hS hl
  exact lv_if_lt O.1 O.2.1 hd ht (fun z => kt z p e s m args below meth c A H locs ls O hP hD hS hl) (fun z => kf z p e s m args below meth c A H locs ls O hP hD hS hl)
theorem ev_if_ge {x : Int32} {off : Int} (tgt : Nat) (hd : decode M.2.1 pc = .ok (.ifCond .ge off, 3)) (ht : (pc : Int) + off = (tgt : Int)) (kt : 0 ≤ x → Ev G d M tgt lv st h Q) (kf : ¬ (0 ≤ x) → Ev G d M (pc + 3) lv st h Q) : Ev G d M pc lv (.int x :: st) h Q := by
  intro p e s m args below meth c A H locs ls O hP hD hS hl
  exact lv_if_ge O.1 O.2.1 hd ht (fun z => kt z p e s m args below meth c A H locs ls O hP hD hS hl) (fun z => kf z p e s m args below meth c A H locs ls O hP hD hS hl)
theorem ev_if_gt {x : Int32} {off : Int} (tgt : Nat) (hd : decode M.2.1 pc = .ok (.ifCond .gt off, 3)) (ht : (pc : Int) + off = (tgt : Int)) (kt : 0 < x → Ev G d M tgt lv st h Q) (kf : ¬ (0 < x) → Ev G d M (pc + 3) lv st h Q) : Ev G d M pc lv (.int x :: st) h Q := by
  intro p e s m args below meth c A H locs ls O hP hD hS hl
  exact lv_if_gt O.1 O.2.1 hd ht (fun z => kt z p e s m args below meth c A H locs ls O hP hD hS hl) (fun z => kf z p e s m args below meth c A H locs ls O hP hD hS hl)
theorem ev_if_le {x : Int32} {off : Int} (tgt : Nat) (hd : decode M.2.1 pc = .ok (.ifCond .le off, 3)) (ht : (pc : Int) + off = (tgt : Int)) (kt : x ≤ 0 → Ev G d M tgt lv st h Q) (kf : ¬ (x ≤ 0) → Ev G d M (pc + 3) lv st h Q) : Ev G d M pc lv (.int x :: st) h Q := by
  intro p e s m args below meth c A H locs ls O hP hD hS hl
  exact lv_if_le O.1 O.2.1 hd ht (fun z => kt z p e s m args below meth c A H locs ls O hP hD hS hl) (fun z => kf z p e s m args below meth c A H locs ls O hP hD hS hl)
theorem ev_icmp_eq {x y : Int32} {off : Int} (tgt : Nat) (hd : decode M.2.1 pc = .ok (.if_icmp .eq off, 3)) (ht : (pc : Int) + off = (tgt : Int)) (kt : x = y → Ev G d M tgt lv st h Q) (kf : ¬ (x = y) → Ev G d M (pc + 3) lv st h Q) : Ev G d M pc lv (.int y :: .int x :: st) h Q := by
  intro p e s m args below meth c A H locs ls O hP hD hS hl
  exact lv_icmp_eq O.1 O.2.1 hd ht (fun z => kt z p e s m args below meth c A H locs ls O hP hD hS hl) (fun z => kf z p e s m args below meth c A H locs ls O hP hD hS hl)
theorem ev_icmp_ne {x y : Int32} {off : Int} (tgt : Nat) (hd : decode M.2.1 pc = .ok (.if_icmp .ne off, 3)) (ht : (pc : Int) + off = (tgt : Int)) (kt : ¬ x = y → Ev G d M tgt lv st h Q) (kf : x = y → Ev G d M (pc + 3) lv st h Q) : Ev G d M pc lv (.int y :: .int x :: st) h Q := by
  intro p e s m args below meth c A H locs ls O hP hD hS hl
  exact lv_icmp_ne O.1 O.2.1 hd ht (fun z => kt z p e s m args below meth c A H locs ls O hP hD hS hl) (fun z => kf z p e s m args below meth c A H locs ls O hP hD hS hl)
theorem ev_icmp_lt {x y : Int32} {off : Int} (tgt : Nat) (hd : decode M.2.1 pc = .ok (.if_icmp .lt off, 3)) (ht : (pc : Int) + off = (tgt : Int)) (kt : x < y → Ev G d M tgt lv st h Q) (kf : ¬ (x < y) → Ev G d M (pc + 3) lv st h Q) : Ev G d M pc lv (.int y :: .int x :: st) h Q := by
  intro p e s m args below meth c A H locs ls O hP hD hS hl
  exact lv_icmp_lt O.1 O.2.1 hd ht (fun z => kt z p e s m args below meth c A H locs ls O hP hD hS hl) (fun z => kf z p e s m args below meth c A H locs ls O hP hD hS hl)
theorem ev_icmp_ge {x y : Int32} {off : Int} (tgt : Nat) (hd : decode M.2.1 pc = .ok (.if_icmp .ge off, 3)) (ht : (pc : Int) + off = (tgt : Int)) (kt : y ≤ x → Ev G d M tgt lv st h Q) (kf : ¬ (y ≤ x) → Ev G d M (pc + 3) lv st h Q) : Ev G d M pc lv (.int y :: .int x :: st) h Q := by
  intro p e s m args below meth c A H locs ls O hP hD hS hl
  exact lv_icmp_ge O.1 O.2.1 hd ht (fun z => kt z p e s m args below meth c A H locs ls O hP hD hS hl) (fun z => kf z p e s m args below meth c A H locs ls O hP hD hS hl)
theorem ev_icmp_gt {x y : Int32} {off : Int} (tgt : Nat) (hd : decode M.2.1 pc = .ok (.if_icmp .gt off, 3)) (ht : (pc : Int) + off = (tgt : Int)) (kt : y < x → Ev G d M tgt lv st h Q) (kf : ¬ (y < x) → Ev G d M (pc + 3) lv st h Q) : Ev G d M pc lv (.int y :: .int x :: st) h Q := by
  intro p e s m args below meth c A H locs ls O hP hD hS hl
  exact lv_icmp_gt O.1 O.2.1 hd ht (fun z => kt z p e s m args below meth c A H locs ls O hP hD hS hl) (fun z => kf z p e s m args below meth c A H locs ls O hP hD hS hl)
theorem ev_icmp_le {x y : Int32} {off : Int} (tgt : Nat) (hd : decode M.2.1 pc = .ok (.if_icmp .le off, 3)) (ht : (pc : Int) + off = (tgt : Int)) (kt : x ≤ y → Ev G d M tgt lv st h Q) (kf : ¬ (x ≤ y) → Ev G d M (pc + 3) lv st h Q) : Ev G d M pc lv (.int y :: .int x :: st) h Q := by
  intro p e s m args below meth c A H locs ls O hP hD hS hl
  exact lv_icmp_le O.1 O.2.1 hd ht (fun z => kt z p e s m args below meth c A H locs ls O hP hD hS hl) (fun z => kf z p e s m args below meth c A H locs ls O hP hD hS hl)
theorem ev_tsOut {dflt lo hi : Int} {offs : Array Int} {len : Nat} {x : Int32} (tgt : Nat) (hd : decode M.2.1 pc = .ok (.tableswitch dflt lo hi offs, len)) (hx : x.toInt < lo ∨ hi < x.toInt) (ht : (pc : Int) + dflt = (tgt : Int)) (k : Ev G d M tgt lv st h Q) : Ev G d M pc lv (.int x :: st) h Q := by
  intro p e s m args below meth c A H locs ls O hP hD hS hl
  exact lv_tableOut O.1 O.2.1 hd hx ht (k p e s m args below meth c A H locs ls O hP hD hS hl)
theorem ev_tsIn {dflt lo hi : Int} {offs : Array Int} {len : Nat} {x : Int32} {off : Int} (tgt : Nat) (hd : decode M.2.1 pc = .ok (.tableswitch dflt lo hi offs, len)) (h1 : ¬ x.toInt < lo) (h2 : ¬ hi < x.toInt) (ho : offs[(x.toInt - lo).toNat]? = some off) (ht : (pc : Int) + off = (tgt : Int)) (k : Ev G d M tgt lv st h Q) : Ev G d M pc lv (.int x :: st) h Q := by
  intro p e s m args below meth c A H locs ls O hP hD hS hl
  exact lv_tableIn O.1 O.2.1 hd h1 h2 ho ht (k p e s m args below meth c A H locs ls O hP hD hS hl)
/-! ends -/
theorem ev_iret {v : Int32} (hd : decode M.2.1 pc = .ok (.ireturn, 1)) (hr : M.2.2.2 = some .int) (hq : Q (some (.int v)) h) : Ev G d M pc lv [.int v] h Q := by
  intro p e s m args below meth c A H locs ls O hP hD hS hl
  have hlocks : meth.locks = false := O.2.2.2.2.2.2.1
  exact W.iret (v := v) O.1 O.2.1 (O.2.2.1.trans hr) (fun t ht hW => ⟨⟨some (.int v), h, rfl, hq, by rw [ht]; exact hP, va_K.moved hW.alike O.2.2.2.2.2.2.2.1, hD⟩, hS.F ht⟩) hS.2.2 hd hlocks
theorem ev_zret {v : Int32} (hd : decode M.2.1 pc = .ok (.ireturn, 1)) (hr : M.2.2.2 = some .boolean) (hn : narrow .boolean (.int v) = .int v) (hq : Q (some (.int v)) h) : Ev G d M pc lv [.int v] h Q := by
  intro p e s m args below meth c A H locs ls O hP hD hS hl
  have hlocks : meth.locks = false := O.2.2.2.2.2.2.1
  exact W.zret (v := v) O.1 O.2.1 (O.2.2.1.trans hr) hn (fun t ht hW => ⟨⟨some (.int v), h, rfl, hq, by rw [ht]; exact hP, va_K.moved hW.alike O.2.2.2.2.2.2.2.1, hD⟩, hS.F ht⟩) hS.2.2 hd hlocks
theorem ev_lret {v : Int64} (hd : decode M.2.1 pc = .ok (.lreturn, 1)) (hr : M.2.2.2 = some .long) (hq : Q (some (.long v)) h) : Ev G d M pc lv [.long v] h Q := by
  intro p e s m args below meth c A H locs ls O hP hD hS hl
  have hlocks : meth.locks = false := O.2.2.2.2.2.2.1
  exact W.lret (v := v) O.1 O.2.1 (O.2.2.1.trans hr) (fun t ht hW => ⟨⟨some (.long v), h, rfl, hq, by rw [ht]; exact hP, va_K.moved hW.alike O.2.2.2.2.2.2.2.1, hD⟩, hS.F ht⟩) hS.2.2 hd hlocks
theorem ev_aret {v : Nat} {C : String} (hd : decode M.2.1 pc = .ok (.areturn, 1)) (hr : M.2.2.2 = some (.object C)) (hq : Q (some (.ref v)) h) : Ev G d M pc lv [.ref v] h Q := by
  intro p e s m args below meth c A H locs ls O hP hD hS hl
  have hlocks : meth.locks = false := O.2.2.2.2.2.2.1
  exact W.aret (v := .ref (G.2.2.2 v)) O.1 O.2.1 (O.2.2.1.trans hr) (Or.inl ⟨C, rfl⟩) (Or.inr ⟨_, rfl⟩) (fun t ht hW => ⟨⟨some (.ref v), h, rfl, hq, by rw [ht]; exact hP, va_K.moved hW.alike O.2.2.2.2.2.2.2.1, hD⟩, hS.F ht⟩) hS.2.2 hd hlocks
theorem ev_ret (hd : decode M.2.1 pc = .ok (.return_, 1)) (hr : M.2.2.2 = none) (hq : Q none h) : Ev G d M pc lv [] h Q := by
  intro p e s m args below meth c A H locs ls O hP hD hS hl
  have hlocks : meth.locks = false := O.2.2.2.2.2.2.1
  exact W.vret O.1 O.2.1 (O.2.2.1.trans hr) (fun t ht hW => ⟨⟨none, h, rfl, hq, by rw [ht]; exact hP, va_K.moved hW.alike O.2.2.2.2.2.2.2.1, hD⟩, hS.F ht⟩) hS.2.2 hd hlocks
/-! fields -/
/-- the field k of the class ci, as the class own names it at its place idx -/
def m_FL (own : String) (idx ci k : Nat) : Prop := ∃ (C : String) (T : u_T) (N : Nat), m_cls[ci]? = some (C, T, N) ∧ k < N ∧ (∀ w ∈ u_ws C T N, w ∈ m_tbl) ∧ Cond.fieldLink own idx (T k).1 (T k).2.1 (T k).2.2.1 ∈ m_tbl
def m_FP (own : String) (idx ci k : Nat) (ty : FieldType) : Prop := ∃ (C : String) (T : u_T) (N : Nat) (t : Nat → FieldType), m_cls[ci]? = some (C, T, N) ∧ k < N ∧ (∀ w ∈ u_ws C T N, w ∈ m_tbl) ∧ Cond.fieldLink own idx (T k).1 (T k).2.1 (T k).2.2.1 ∈ m_tbl ∧ (T k).2.2.2 = false ∧ parseFieldDescriptor (T k).2.2.1 = some ty ∧ (∀ k, k < N → parseFieldDescriptor (T k).2.2.1 = some (t k)) ∧ (∀ a, a < N → ∀ b, b < N → a ≠ b → (T a).2.1 ≠ (T b).2.1)
theorem ev_get {idx p ci j t : Nat} {ts : List Nat} (hf : m_FL M.1.cls idx ci j) (hp : m_lay[p]? = some (.inr (ci, ts))) (ht : ts[j]? = some t) (hd : decode M.2.1 pc = .ok (.getfield idx, 3)) (k : ∀ (p' : Program) (e : Env) (s : State) (m : MethodId) (args : Array Value) (below : List Frame) (meth : Method) (c : Code) (A : Nat → Prop) (H : Heap) (locs : List Loc) (ls : Array Slot), m_Ok G M p' s m args meth c A → va_P G.2.1 m_cls (m_ws G.2.2.2 G.2.2.1 h) H → va_D A (m_ws G.2.2.2 G.2.2.1 h) → va_S A s.heap H locs → lv_has ls M.2.2.1 (m_prs G.2.2.2 0 lv) → W p' G.1 e (m_rm d) s m args below meth c H locs 0 0 (MQ below (m_Post G A Q) args s 0 0 A) (F0 m (pc + 3) ls (m_fld G.2.2.2 h p j t :: st.map (m_v G.2.2.2)))) : Ev G d M pc lv (.ref p :: st) h Q := by
  intro p' e s m args below meth c A H locs ls O hP hD hS hl
  obtain ⟨C, T, N, hc, hk, hin, hlk⟩ := hf
  refine va_get (D := G.2.1) O.1 O.2.1 O.2.2.2.2.2.1 hin O.2.2.2.2.1 O.2.2.2.2.2.2.2.1 hP p (m_ws_get hp) hc j hk (O.2.2.2.2.2.1 _ hlk) (fun _ h9 => h9) (v := m_fld G.2.2.2 h p j t) ?_ hd (k p' e s m args below meth c A H locs ls O hP hD hS hl)
  rw [m_flds_get, ht]; simp
theorem ev_getI {idx p ci j : Nat} {ts : List Nat} (hf : m_FL M.1.cls idx ci j) (hp : m_lay[p]? = some (.inr (ci, ts))) (ht : ts[j]? = some 0) (hd : decode M.2.1 pc = .ok (.getfield idx, 3)) (k : Ev G d M (pc + 3) lv (.int (h.1 p j) :: st) h Q) : Ev G d M pc lv (.ref p :: st) h Q := ev_get hf hp ht hd k
theorem ev_getL {idx p ci j : Nat} {ts : List Nat} (hf : m_FL M.1.cls idx ci j) (hp : m_lay[p]? = some (.inr (ci, ts))) (ht : ts[j]? = some 1) (hd : decode M.2.1 pc = .ok (.getfield idx, 3)) (k : Ev G d M (pc + 3) lv (.long (h.2 p j) :: st) h Q) : Ev G d M pc lv (.ref p :: st) h Q := ev_get hf hp ht hd k
theorem ev_getR {idx p ci j q : Nat} {ts : List Nat} (hf : m_FL M.1.cls idx ci j) (hp : m_lay[p]? = some (.inr (ci, ts))) (ht : ts[j]? = some (q + 2)) (hd : decode M.2.1 pc = .ok (.getfield idx, 3)) (k : Ev G d M (pc + 3) lv (.ref q :: st) h Q) : Ev G d M pc lv (.ref p :: st) h Q := ev_get hf hp ht hd k
theorem ev_putI {idx p ci j : Nat} {ts : List Nat} {v : Int32} {ty : FieldType} (hf : m_FP M.1.cls idx ci j ty) (hp : m_lay[p]? = some (.inr (ci, ts))) (ht : ts[j]? = some 0) (hn : narrow ty (.int v) = .int v) (hfit : fits ty (.int v) = true) (hd : decode M.2.1 pc = .ok (.putfield idx, 3)) (k : Ev G d M (pc + 3) lv st (m_put h p j v) Q) : Ev G d M pc lv (.int v :: .ref p :: st) h Q := by
  intro p' e s m args below meth c A H locs ls O hP hD hS hl
  obtain ⟨C, T, N, t, hc, hk, hin, hlk, hfin, hpd, hty, hnm⟩ := hf
  refine va_put (D := G.2.1) (v := .int v) (ty := ty) O.1 O.2.1 O.2.2.2.2.2.1 hin t hty hnm O.2.2.2.2.1 O.2.2.2.2.2.2.2.1 hP hD hS p (m_ws_get hp) hc j hk (O.2.2.2.2.2.1 _ hlk) (fun _ h9 => h9) hfin hpd hn hfit (by rw [m_flds_len]; exact (List.getElem?_eq_some_iff.mp ht).1) hd ?_
  intro H1 locs1 hP1 hD1 hS1
  rw [m_ws_putF hp ht] at hP1 hD1
  exact k p' e s m args below meth c A H1 locs1 ls O hP1 hD1 hS1 hl
theorem ev_putL {idx p ci j : Nat} {ts : List Nat} {v : Int64} (hf : m_FP M.1.cls idx ci j .long) (hp : m_lay[p]? = some (.inr (ci, ts))) (ht : ts[j]? = some 1) (hd : decode M.2.1 pc = .ok (.putfield idx, 3)) (k : Ev G d M (pc + 3) lv st (m_putL h p j v) Q) : Ev G d M pc lv (.long v :: .ref p :: st) h Q := by
  intro p' e s m args below meth c A H locs ls O hP hD hS hl
  obtain ⟨C, T, N, t, hc, hk, hin, hlk, hfin, hpd, hty, hnm⟩ := hf
  refine va_put (D := G.2.1) (v := .long v) (ty := .long) O.1 O.2.1 O.2.2.2.2.2.1 hin t hty hnm O.2.2.2.2.1 O.2.2.2.2.2.2.2.1 hP hD hS p (m_ws_get hp) hc j hk (O.2.2.2.2.2.1 _ hlk) (fun _ h9 => h9) hfin hpd rfl rfl (by rw [m_flds_len]; exact (List.getElem?_eq_some_iff.mp ht).1) hd ?_
  intro H1 locs1 hP1 hD1 hS1
  rw [m_ws_putFL hp ht] at hP1 hD1
  exact k p' e s m args below meth c A H1 locs1 ls O hP1 hD1 hS1 hl
/-! arrays -/
theorem ev_iald {a n : Nat} {rs : List Nat} {i : Int32} (hp : m_lay[a]? = some (.inl (0, n, rs))) (hin : vp_in i n) (hd : decode M.2.1 pc = .ok (.iaload, 1)) (k : Ev G d M (pc + 1) lv (.int (h.1 a i.toNatClampNeg) :: st) h Q) : Ev G d M pc lv (.int i :: .ref a :: st) h Q := by
  intro p' e s m args below meth c A H locs ls O hP hD hS hl
  exact va_iald (D := G.2.1) (f := h.1 a) O.1 O.2.1 O.2.2.2.2.2.2.2.1 hP a 0 (m_ws_get hp) rfl hin hd (k p' e s m args below meth c A H locs ls O hP hD hS hl)
theorem ev_zald {a n : Nat} {rs : List Nat} {i : Int32} (hp : m_lay[a]? = some (.inl (1, n, rs))) (hin : vp_in i n) (hd : decode M.2.1 pc = .ok (.baload, 1)) (k : Ev G d M (pc + 1) lv (.int (h.1 a i.toNatClampNeg) :: st) h Q) : Ev G d M pc lv (.int i :: .ref a :: st) h Q := by
  intro p' e s m args below meth c A H locs ls O hP hD hS hl
  exact va_zald (D := G.2.1) (f := h.1 a) O.1 O.2.1 O.2.2.2.2.2.2.2.1 hP a 1 (m_ws_get hp) rfl hin hd (k p' e s m args below meth c A H locs ls O hP hD hS hl)
theorem ev_lald {a n : Nat} {rs : List Nat} {i : Int32} (hp : m_lay[a]? = some (.inl (2, n, rs))) (hin : vp_in i n) (hd : decode M.2.1 pc = .ok (.laload, 1)) (k : Ev G d M (pc + 1) lv (.long (h.2 a i.toNatClampNeg) :: st) h Q) : Ev G d M pc lv (.int i :: .ref a :: st) h Q := by
  intro p' e s m args below meth c A H locs ls O hP hD hS hl
  exact va_lald (D := G.2.1) (f := h.2 a) O.1 O.2.1 O.2.2.2.2.2.2.2.1 hP a 2 (m_ws_get hp) rfl hin hd (k p' e s m args below meth c A H locs ls O hP hD hS hl)
theorem ev_iast {a n : Nat} {rs : List Nat} {i x : Int32} (hp : m_lay[a]? = some (.inl (0, n, rs))) (hin : vp_in i n) (hd : decode M.2.1 pc = .ok (.iastore, 1)) (k : Ev G d M (pc + 1) lv st (m_put h a i.toNatClampNeg x) Q) : Ev G d M pc lv (.int x :: .int i :: .ref a :: st) h Q := by
  intro p' e s m args below meth c A H locs ls O hP hD hS hl
  refine va_iast (D := G.2.1) (f := h.1 a) O.1 O.2.1 O.2.2.2.2.2.2.2.1 hP hD hS a 0 (m_ws_get hp) rfl hin hd ?_
  intro H1 locs1 hP1 hD1 hS1
  rw [m_ws_putAr hp (by decide)] at hP1 hD1
  exact k p' e s m args below meth c A H1 locs1 ls O hP1 hD1 hS1 hl
theorem ev_zast {a n : Nat} {rs : List Nat} {i x : Int32} (hp : m_lay[a]? = some (.inl (1, n, rs))) (hin : vp_in i n) (hx : vp_nar .boolean x = x) (hd : decode M.2.1 pc = .ok (.bastore, 1)) (k : Ev G d M (pc + 1) lv st (m_put h a i.toNatClampNeg x) Q) : Ev G d M pc lv (.int x :: .int i :: .ref a :: st) h Q := by
  intro p' e s m args below meth c A H locs ls O hP hD hS hl
  refine va_zast (D := G.2.1) (f := h.1 a) O.1 O.2.1 O.2.2.2.2.2.2.2.1 hP hD hS a 1 (m_ws_get hp) rfl hin hd ?_
  intro H1 locs1 hP1 hD1 hS1
  rw [hx, m_ws_putAr hp (by decide)] at hP1 hD1
  exact k p' e s m args below meth c A H1 locs1 ls O hP1 hD1 hS1 hl
theorem ev_last {a n : Nat} {rs : List Nat} {i : Int32} {x : Int64} (hp : m_lay[a]? = some (.inl (2, n, rs))) (hin : vp_in i n) (hd : decode M.2.1 pc = .ok (.lastore, 1)) (k : Ev G d M (pc + 1) lv st (m_putL h a i.toNatClampNeg x) Q) : Ev G d M pc lv (.long x :: .int i :: .ref a :: st) h Q := by
  intro p' e s m args below meth c A H locs ls O hP hD hS hl
  refine va_last (D := G.2.1) (f := h.2 a) O.1 O.2.1 O.2.2.2.2.2.2.2.1 hP hD hS a 2 (m_ws_get hp) rfl hin hd ?_
  intro H1 locs1 hP1 hD1 hS1
  rw [m_ws_putArL hp] at hP1 hD1
  exact k p' e s m args below meth c A H1 locs1 ls O hP1 hD1 hS1 hl
theorem ev_alen {a kd n : Nat} {rs : List Nat} (hp : m_lay[a]? = some (.inl (kd, n, rs))) (hk : kd < 6) (hd : decode M.2.1 pc = .ok (.arraylength, 1)) (k : Ev G d M (pc + 1) lv (.int (nI n) :: st) h Q) : Ev G d M pc lv (.ref a :: st) h Q := by
  intro p' e s m args below meth c A H locs ls O hP hD hS hl
  have ht : ∃ ty, (m_tys G.2.2.1)[kd]? = some (G.2.2.1 kd, ty) := by
    match kd, hk with
    | 0, _ => exact ⟨_, rfl⟩
    | 1, _ => exact ⟨_, rfl⟩
    | 2, _ => exact ⟨_, rfl⟩
    | 3, _ => exact ⟨_, rfl⟩
    | 4, _ => exact ⟨_, rfl⟩
    | 5, _ => exact ⟨_, rfl⟩
  obtain ⟨ty, ht⟩ := ht
  exact va_alen (D := G.2.1) O.1 O.2.1 O.2.2.2.2.2.2.2.1 hP a kd (m_ws_get hp) ht rfl hd (k p' e s m args below meth c A H locs ls O hP hD hS hl)
theorem ev_aald {a kd n j q : Nat} {rs : List Nat} {i : Int32} (hp : m_lay[a]? = some (.inl (kd + 3, n, rs))) (hk : kd < 3) (hin : vp_in i n) (hq : rs[i.toNatClampNeg]? = some q) (hd : decode M.2.1 pc = .ok (.aaload, 1)) (k : Ev G d M (pc + 1) lv (.ref q :: st) h Q) : Ev G d M pc lv (.int i :: .ref a :: st) h Q := by
  intro p' e s m args below meth c A H locs ls O hP hD hS hl
  have ht : ∃ ty, (m_tys G.2.2.1)[kd + 3]? = some (G.2.2.1 (kd + 3), ty) ∧ ty.isReference = true := by
    match kd, hk with
    | 0, _ => exact ⟨_, rfl, rfl⟩
    | 1, _ => exact ⟨_, rfl, rfl⟩
    | 2, _ => exact ⟨_, rfl, rfl⟩
  obtain ⟨ty, ht, hr⟩ := ht
  have hlt : i.toNatClampNeg < n := Nat.not_le.mp fun z => hin (Or.inr z)
  have hin' : ¬ (i < 0 ∨ (arrV (G.2.2.1 (kd + 3)) n fun j => va_rf (rs[j]?.map G.2.2.2)).slots.size ≤ i.toNatClampNeg) := (arrV_size (G.2.2.1 (kd + 3)) n fun j => va_rf (rs[j]?.map G.2.2.2)).symm ▸ hin
  have hrd : (arrV (G.2.2.1 (kd + 3)) n fun j => va_rf (rs[j]?.map G.2.2.2)).slots[i.toNatClampNeg]? = some (.ref (G.2.2.2 q)) := by
    simp only [arrV_read _ _ hlt, hq, Option.map_some, va_rf]
  exact W.aald (v := .ref (G.2.2.2 q)) (ty := ty) O.1 O.2.1 (hP a _ (m_ws_get hp)) ((O.2.2.2.2.2.2.2.1.2 (kd + 3) _ ht).1 n (fun j => va_rf (rs[j]?.map G.2.2.2))) hr nofun hin' hrd rfl rfl hd (k p' e s m args below meth c A H locs ls O hP hD hS hl)
/-! calls -/
/-- what a callee has done to the heap H, added to what its caller had done to H0 before -/
theorem m_sS {A0 A1 : Nat → Prop} {H0 H H1 : Heap} {locs L : List Loc} (hS : va_S A0 H0 H locs) (hA : ∀ q, q < H.size → A1 q → A0 q) (hF : H.size ≤ H1.size ∧ ∀ q : Nat, q < H.size → ¬ A1 q → H1[q]? = H[q]?) (hL : ∀ x ∈ L, A0 x.base) : va_S A0 H0 H1 (locs ++ L) := by
  have below : ∀ q, q < H0.size → q < H.size := fun q hq => Nat.lt_of_lt_of_le hq hS.1
  refine ⟨Nat.le_trans hS.1 hF.1, fun q hq hn => ?_, fun x hx => (List.mem_append.mp hx).elim (hS.2.2 x) (hL x)⟩
  exact (hF.2 q (below q hq) (mt (hA q (below q hq)) hn)).trans (hS.2.1 q hq hn)
/-- a call whose callee leaves a world: its answer is whatever the contract says, of whatever kind -/
theorem m_callK {p : Program} {e : Env} {R : Room} {s : State} {m : MethodId} {args : Array Value} {below : List Frame} {meth : Method} {c : Code} {H : Heap} {locs : List Loc} {Z : State → Prop} {ls : Array Slot} {rest st0 : List Value} {a : Array Value} {A0 A1 : Nat → Prop} {H0 : Heap} {free : Addr → Prop} {Q' : Option Value → MH → Prop} {cells slots : Nat}
    (hr : va_Run p G.1 e R s m args below meth c H locs cells slots 0 0 (F0 m pc ls st0) rest (m_Post G A1 Q' a) free) (hS : va_S A0 H0 H locs) (hA : ∀ q, q < H.size → A1 q → A0 q) (hf : ∀ q, free q → A0 q)
    (kk : ∀ (rv : Option Value) (h1 : MH) (t : State) (H1 : Heap) (locs1 : List Loc), t.heap = H1 → s.vm.Alike t.vm → Q' rv h1 → va_P G.2.1 m_cls (m_ws G.2.2.2 G.2.2.1 h1) H1 → va_D A1 (m_ws G.2.2.2 G.2.2.1 h1) → va_S A0 H0 H1 locs1 → W p G.1 e R s m args below meth c H1 locs1 cells slots Z (F0 m (pc + 3) ls ((rv.map (m_v G.2.2.2)).toList ++ rest))) : W p G.1 e R s m args below meth c H locs cells slots Z (F0 m pc ls st0) := by
  intro T hT X
  obtain ⟨ans, before, after, T1, fresh, hbefore, X1, hfresh, hheap, hvm, ⟨⟨rv, h1, hans, hQ, hP1, -, hD1⟩, hF⟩, hgo⟩ := hr T hT X
  have hF1 : H.size ≤ after.heap.size ∧ ∀ q : Nat, q < H.size → ¬ A1 q → after.heap[q]? = H[q]? := hbefore ▸ hF
  have hal : s.vm.Alike after.vm := hvm ▸ X1.warmed.alike
  have hrv : ans = rv.map (m_v G.2.2.2) := by injection hans
  subst hrv
  have hW := kk rv h1 after after.heap (locs ++ fresh) rfl hal hQ hP1 hD1 (m_sS hS hA hF1 fun x hx => hf _ (hfresh x hx))
  exact (hW T1 hheap X1).imp fun t2 h => ⟨hgo t2 h.1, h.2⟩
theorem m_call {p : Program} {e : Env} {R : Room} {s : State} {m : MethodId} {args : Array Value} {below : List Frame} {meth : Method} {c : Code} {H : Heap} {locs : List Loc} {Z : State → Prop} {ls : Array Slot} {rest st0 : List Value} {a : Array Value} {A0 A1 : Nat → Prop} {H0 : Heap} {free : Addr → Prop} {Q' : Option Value → MH → Prop}
    (hr : va_Run p G.1 e R s m args below meth c H locs 0 0 0 0 (F0 m pc ls st0) rest (m_Post G A1 Q' a) free) (hS : va_S A0 H0 H locs) (hA : ∀ q, q < H.size → A1 q → A0 q) (hf : ∀ q, free q → A0 q)
    (kk : ∀ (rv : Option Value) (h1 : MH) (t : State) (H1 : Heap) (locs1 : List Loc), t.heap = H1 → s.vm.Alike t.vm → Q' rv h1 → va_P G.2.1 m_cls (m_ws G.2.2.2 G.2.2.1 h1) H1 → va_D A1 (m_ws G.2.2.2 G.2.2.1 h1) → va_S A0 H0 H1 locs1 → W p G.1 e R s m args below meth c H1 locs1 0 0 Z (F0 m (pc + 3) ls ((rv.map (m_v G.2.2.2)).toList ++ rest))) : W p G.1 e R s m args below meth c H locs 0 0 Z (F0 m pc ls st0) :=
  m_callK hr hS hA hf kk
theorem m_good {w : Cond} (hw : w ∈ m_tbl) : GoodIn m_tbl (w :: m_tbl) := by
  intro z hz
  have hz' : z ∈ m_tbl := by
    rcases List.mem_cons.mp hz with h | h
    · rw [h]; exact hw
    · exact h
  exact ⟨hz', good_of_word (List.mem_filter.mp hz').2⟩
/-- what a call needs of the callee: of an instance method with n parameters; of a static one -/
def m_OV (N : MI) (n : Nat) : Prop := (Cond.instanceMethod N.1 ∈ m_tbl ∧ Cond.selects N.1.cls N.1 N.1 ∈ m_tbl) ∧ Cond.initialized N.1.cls ∈ m_tbl ∧ Cond.code N.1 N.2.1 N.2.2.1 N.2.2.2 ∈ m_tbl ∧ (N.1.cls ≠ "java/lang/invoke/MethodHandle" ∧ N.1.cls ≠ "java/lang/invoke/VarHandle" ∧ (parseMethodDescriptor N.1.desc).map (fun d => d.parameters.length) = some n) ∧ N.2.2.1 ≤ 45
def m_OS (N : MI) (n : Nat) : Prop := Cond.static N.1 ∈ m_tbl ∧ Cond.initialized N.1.cls ∈ m_tbl ∧ Cond.code N.1 N.2.1 N.2.2.1 N.2.2.2 ∈ m_tbl ∧ (N.1.cls ≠ "java/lang/invoke/MethodHandle" ∧ N.1.cls ≠ "java/lang/invoke/VarHandle" ∧ (parseMethodDescriptor N.1.desc).map (fun d => d.parameters.length) = some n) ∧ N.2.2.1 ≤ 45
theorem m_pre {N : MI} {av : List Value} {s : State} {H : Heap} (hP : va_P G.2.1 m_cls (m_ws G.2.2.2 G.2.2.1 h) H) {A : Nat → Prop} (hD : va_D A (m_ws G.2.2.2 G.2.2.1 h)) (hK : va_K G.2.1 m_cls (m_tys G.2.2.1) s) :
    PreS s H (va_Pc (av.map (m_v G.2.2.2)) (fun U => U.heap.size = H.size ∧ va_P G.2.1 m_cls (m_ws G.2.2.2 G.2.2.1 h) U.heap ∧ va_K G.2.1 m_cls (m_tys G.2.2.1) U ∧ va_D (fun _ => True) (m_ws G.2.2.2 G.2.2.1 h))) (av.map (m_v G.2.2.2)) :=
  ⟨fun a U g mk q => by obtain ⟨q0, q1, qP, qK, qD⟩ := q; exact ⟨q0, q1, qP, va_K.moved (u := U) (U := U.calling g mk a) (Vm.Alike.refl U.vm) qK, qD⟩, fun U hU hW => ⟨rfl, by rw [hU], by rw [hU]; exact hP, va_K.moved hW.alike hK, hD.weaken (fun _ _ _ _ => trivial)⟩⟩
theorem m_cb {N : MI} {n idx : Nat} {own : String} {s : State} {args : Array Value} (hts : ∀ w ∈ m_tbl, w.before args s = true) (hml : Cond.methodLink own idx N.1 ∈ m_tbl) (hini : Cond.initialized N.1.cls ∈ m_tbl) (hcode : Cond.code N.1 N.2.1 N.2.2.1 N.2.2.2 ∈ m_tbl) (hd : N.1.cls ≠ "java/lang/invoke/MethodHandle" ∧ N.1.cls ≠ "java/lang/invoke/VarHandle" ∧ (parseMethodDescriptor N.1.desc).map (fun d => d.parameters.length) = some n) (hm : N.2.2.1 ≤ 45) {R : Room} (hR : d + 1 ≤ R.frames ∧ 64 * (d + 1) ≤ R.locals) :
    CallB R s args own idx N.1 N.2.1 N.2.2.1 N.2.2.2 (.code N.1 N.2.1 N.2.2.1 N.2.2.2 :: m_tbl) (m_rm d) 0 0 n :=
  callB_of n hts (m_good hcode) rfl rfl rfl (hts _ hini) (hts _ hml) hd ⟨hR.1, by show 8 + (N.2.2.1 + 11) + 64 * d ≤ _; omega⟩
theorem ev_callV {N : MI} {idx n b ci : Nat} {ts : List Nat} {T : u_T} {NN : Nat} {As rest : List Value} {Q' : Option Value → MH → Prop} (hcl : Cl G d N (.ref b :: As) h Q') (hov : m_OV N n) (hml : Cond.methodLink M.1.cls idx N.1 ∈ m_tbl) (hb : m_lay[b]? = some (.inr (ci, ts))) (hc : m_cls[ci]? = some (N.1.cls, T, NN)) (hn : As.length = n) (hst : st = As.reverse ++ .ref b :: rest) (hroom : (rest.map fun v => v.category).sum ≤ 8) (hd : decode M.2.1 pc = .ok (.invokevirtual idx, 3))
    (k : ∀ rv h1, Q' rv h1 → Ev G (d + 1) M (pc + 3) lv (rv.toList ++ rest) h1 Q) : Ev G (d + 1) M pc lv st h Q := by
  subst hst
  intro p e s m args below meth c A H locs ls O hP hD hS hl
  obtain ⟨hx, hbb, hr, hmax, hown, hts, hlk, hK, hA⟩ := id O
  obtain ⟨⟨hi, hse⟩, hini, hcode, hdd, hm45⟩ := hov
  have hpre := m_pre (N := N) (av := .ref b :: As) hP hD hK
  have hfree := m_A_sub hD hS hA
  refine m_call (G := G) (rest := rest.map (m_v G.2.2.2)) (va_runV (As := As.map (m_v G.2.2.2)) (nL := M.2.2.1) (Ts := m_tbl) (own := M.1.cls) (C := N.1.cls) ⟨hx, hbb, hmax, hown, hts⟩ (hcl H.size) (n := n) ⟨m_cb hts hml hini hcode hdd hm45 ⟨Nat.le_refl _, Nat.le_refl _⟩, hts _ hi, hts _ hse⟩ ⟨hpre.1, va_recv hK hP hc (m_ws_get hb), hpre.2⟩ rfl (by rw [List.length_map]; exact hn) hl.1 (by simp only [List.map_append, List.map_reverse, List.map_cons]; rfl) (lv_room (by simpa [List.map_map, Function.comp_def, m_v_cat] using hroom)) hd ⟨Nat.zero_le _, Nat.zero_le _⟩) hS (fun q _ z => hfree q z) hfree ?_
  intro rv h1 t H1 locs1 ht hvm hq hP1 hD1 hS1
  have := k rv h1 hq p e s m args below meth c A H1 locs1 ls O hP1 (hD1.weaken (fun _ q _ z => hfree q.1 z)) hS1 hl
  rw [List.map_append] at this
  rw [show (rv.map (m_v G.2.2.2)).toList = rv.toList.map (m_v G.2.2.2) by cases rv <;> rfl]
  exact this
theorem ev_callS {N : MI} {idx n : Nat} {As rest : List Value} {Q' : Option Value → MH → Prop} (hcl : Cl G d N As h Q') (hos : m_OS N n) (hml : Cond.methodLink M.1.cls idx N.1 ∈ m_tbl) (hn : As.length = n) (hst : st = As.reverse ++ rest) (hroom : (rest.map fun v => v.category).sum ≤ 8) (hd : decode M.2.1 pc = .ok (.invokestatic idx, 3))
    (k : ∀ rv h1, Q' rv h1 → Ev G (d + 1) M (pc + 3) lv (rv.toList ++ rest) h1 Q) : Ev G (d + 1) M pc lv st h Q := by
  subst hst
  intro p e s m args below meth c A H locs ls O hP hD hS hl
  obtain ⟨hx, hbb, hr, hmax, hown, hts, hlk, hK, hA⟩ := id O
  obtain ⟨hsta, hini, hcode, hdd, hm45⟩ := hos
  have hpre := m_pre (N := N) (av := As) hP hD hK
  have hfree := m_A_sub hD hS hA
  refine m_call (G := G) (rest := rest.map (m_v G.2.2.2)) (va_runS (As := As.map (m_v G.2.2.2)) (nL := M.2.2.1) (Ts := m_tbl) (own := M.1.cls) ⟨hx, hbb, hmax, hown, hts⟩ (hcl H.size) (n := n) ⟨m_cb hts hml hini hcode hdd hm45 ⟨Nat.le_refl _, Nat.le_refl _⟩, hts _ hsta⟩ hpre rfl (by rw [List.length_map]; exact hn) hl.1 (by simp only [List.map_append, List.map_reverse]) (lv_room (by simpa [List.map_map, Function.comp_def, m_v_cat] using hroom)) hd ⟨Nat.zero_le _, Nat.zero_le _⟩) hS (fun q _ z => hfree q z) hfree ?_
  intro rv h1 t H1 locs1 ht hvm hq hP1 hD1 hS1
  have := k rv h1 hq p e s m args below meth c A H1 locs1 ls O hP1 (hD1.weaken (fun _ q _ z => hfree q.1 z)) hS1 hl
  rw [List.map_append] at this
  rw [show (rv.map (m_v G.2.2.2)).toList = rv.toList.map (m_v G.2.2.2) by cases rv <;> rfl]
  exact this
theorem m_Cl_mono {av : List Value} {Q' : Option Value → MH → Prop} (hcl : Cl G d M av h Q) (hq : ∀ rv h1, Q rv h1 → Q' rv h1) : Cl G d M av h Q' := by
  intro sz p e ha hc hk s m args below hf happ hP hT
  obtain ⟨t, o, a1, b1, b2, ⟨⟨rv, h1, c1, c2, c3⟩, c4⟩, b4⟩ := hcl sz p e ha hc hk s m args below hf happ hP hT
  exact ⟨t, o, a1, b1, b2, ⟨⟨rv, h1, c1, hq _ _ c2, c3⟩, c4⟩, b4⟩
end RULES
end CORE
