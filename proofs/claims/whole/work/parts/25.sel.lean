section SEL
/-! which numbers below k have P: downwards, and upwards from s -/
noncomputable def selD (P : Nat → Prop) : Nat → List Nat
  | 0 => []
  | k + 1 => @ite _ (P k) (Classical.propDecidable _) (k :: selD P k) (selD P k)
noncomputable def selA (P : Nat → Prop) : Nat → Nat → List Nat
  | 0, _ => []
  | k + 1, s => @ite _ (P s) (Classical.propDecidable _) (s :: selA P k (s + 1)) (selA P k (s + 1))
theorem selD_t {P : Nat → Prop} {k : Nat} (h : P k) : selD P (k + 1) = k :: selD P k := if_pos h
theorem selD_f {P : Nat → Prop} {k : Nat} (h : ¬ P k) : selD P (k + 1) = selD P k := if_neg h
theorem selA_t {P : Nat → Prop} {k s : Nat} (h : P s) : selA P (k + 1) s = s :: selA P k (s + 1) := if_pos h
theorem selA_f {P : Nat → Prop} {k s : Nat} (h : ¬ P s) : selA P (k + 1) s = selA P k (s + 1) := if_neg h
theorem selD_c {P Q : Nat → Prop} : ∀ k, (∀ x, x < k → (P x ↔ Q x)) → selD P k = selD Q k
  | 0, _ => rfl
  | k + 1, h => by
    have ih := selD_c k (fun x hx => h x (by omega))
    by_cases c : P k
    · rw [selD_t c, selD_t ((h k (by omega)).mp c), ih]
    · rw [selD_f c, selD_f (fun q => c ((h k (by omega)).mpr q)), ih]
theorem selD_mem {P : Nat → Prop} {x : Nat} : ∀ k, x ∈ selD P k ↔ x < k ∧ P x
  | 0 => by simp [selD]
  | k + 1 => by
    by_cases c : P k
    · rw [selD_t c, List.mem_cons, selD_mem k]
      constructor
      · rintro (rfl | h)
        · exact ⟨by omega, c⟩
        · exact ⟨by omega, h.2⟩
      · rintro ⟨h1, h2⟩
        by_cases e : x = k
        · exact Or.inl e
        · exact Or.inr ⟨by omega, h2⟩
    · rw [selD_f c, selD_mem k]
      constructor
      · rintro ⟨h1, h2⟩; exact ⟨by omega, h2⟩
      · rintro ⟨h1, h2⟩
        have : x ≠ k := fun e => c (e ▸ h2)
        exact ⟨by omega, h2⟩
theorem selA_mem {P : Nat → Prop} {x : Nat} : ∀ k s, x ∈ selA P k s ↔ s ≤ x ∧ x < s + k ∧ P x
  | 0, s => by simp [selA]; omega
  | k + 1, s => by
    by_cases c : P s
    · rw [selA_t c, List.mem_cons, selA_mem k]
      constructor
      · rintro (rfl | h)
        · exact ⟨by omega, by omega, c⟩
        · exact ⟨by omega, by omega, h.2.2⟩
      · rintro ⟨h1, h2, h3⟩
        by_cases e : x = s
        · exact Or.inl e
        · exact Or.inr ⟨by omega, by omega, h3⟩
    · rw [selA_f c, selA_mem k]
      constructor
      · rintro ⟨h1, h2, h3⟩; exact ⟨by omega, by omega, h3⟩
      · rintro ⟨h1, h2, h3⟩
        have : x ≠ s := fun e => c (e ▸ h3)
        exact ⟨by omega, by omega, h3⟩
theorem selD_nd {P : Nat → Prop} : ∀ k, (selD P k).Nodup
  | 0 => List.nodup_nil
  | k + 1 => by
    by_cases c : P k
    · rw [selD_t c, List.nodup_cons]
      exact ⟨fun h => by have := ((selD_mem k).mp h).1; omega, selD_nd k⟩
    · rw [selD_f c]; exact selD_nd k
theorem selA_nd {P : Nat → Prop} : ∀ k s, (selA P k s).Nodup
  | 0, _ => List.nodup_nil
  | k + 1, s => by
    by_cases c : P s
    · rw [selA_t c, List.nodup_cons]
      exact ⟨fun h => by have := ((selA_mem k (s + 1)).mp h).1; omega, selA_nd k (s + 1)⟩
    · rw [selA_f c]; exact selA_nd k (s + 1)
/-- how many below k -/
def cntB (B : Nat → Bool) : Nat → Nat
  | 0 => 0
  | k + 1 => cntB B k + (if B k = true then 1 else 0)
theorem pigeon {B : Nat → Bool} : ∀ (K : Nat) (L : List Nat), L.Nodup → (∀ x, x ∈ L → x < K ∧ B x = true) → L.length ≤ cntB B K
  | 0, L, _, h => by
    cases L with
    | nil => exact Nat.le_refl _
    | cons a l => exact absurd (h a List.mem_cons_self).1 (by omega)
  | K + 1, L, hn, h => by
    show L.length ≤ cntB B K + _
    by_cases c : K ∈ L
    · have h1 := pigeon K (L.erase K) (hn.erase K) (fun x hx => by
        have := (hn.mem_erase_iff).mp hx
        have h2 := h x this.2
        exact ⟨by have := this.1; omega, h2.2⟩)
      rw [List.length_erase_of_mem c] at h1
      rw [if_pos (h K c).2]
      have : 0 < L.length := List.length_pos_of_mem c
      omega
    · have h1 := pigeon K L hn (fun x hx => by
        have h2 := h x hx
        have : x ≠ K := fun e => c (e ▸ hx)
        exact ⟨by omega, h2.2⟩)
      omega
theorem pigeon_f {B : Nat → Bool} {K : Nat} {L : List Nat} (f : Nat → Nat) (hn : L.Nodup) (h : ∀ x, x ∈ L → f x < K ∧ B (f x) = true) (hi : ∀ x y, x ∈ L → y ∈ L → f x = f y → x = y) : L.length ≤ cntB B K := by
  have := pigeon (B := B) K (L.map f) (by
    rw [List.Nodup, List.pairwise_map]
    exact List.Pairwise.imp_of_mem (fun {a b} ha hb hne e => hne (hi a b ha hb e)) hn) (fun x hx => by
    obtain ⟨y, hy, rfl⟩ := List.mem_map.mp hx
    exact h y hy)
  rwa [List.length_map] at this
theorem cntB_add (B : Nat → Bool) (a : Nat) : ∀ b, cntB B (a + b) = cntB B a + cntB (fun x => B (a + x)) b
  | 0 => rfl
  | b + 1 => by
    show cntB B (a + b) + (if B (a + b) = true then 1 else 0) = cntB B a + (cntB (fun x => B (a + x)) b + (if B (a + b) = true then 1 else 0))
    rw [cntB_add B a b]; omega
/-! the subsets of seven in 35 chains -/
def chT : List Nat := [0, 0, 1, 0, 2, 2, 1, 0, 3, 3, 4, 3, 5, 2, 1, 0, 6, 6, 7, 6, 8, 8, 7, 6, 9, 9, 4, 3, 5, 2, 1, 0, 10, 10, 11, 10, 12, 12, 11, 10, 13, 13, 14, 13, 15, 12, 11, 10, 16, 16, 17, 16, 18, 8, 7, 6, 19, 9, 4, 3, 5, 2, 1, 0, 20, 20, 21, 20, 22, 22, 21, 20, 23, 23, 24, 23, 25, 22, 21, 20, 26, 26, 27, 26, 28, 28, 27, 26, 29, 29, 24, 23, 25, 22, 21, 20, 30, 30, 31, 30, 32, 32, 31, 30, 33, 33, 14, 13, 15, 12, 11, 10, 34, 34, 17, 16, 18, 8, 7, 6, 19, 9, 4, 3, 5, 2, 1, 0]
def chn (a : Nat) : Nat := chT.getD a 0
theorem chn_lt : ∀ a, a < 128 → chn a < 35 := by decide +kernel
theorem chn_cmp : ∀ a, a < 128 → ∀ b, b < 128 → chn a = chn b → a ||| b = b ∨ a ||| b = a := by decide +kernel
theorem anti35 {L : List Nat} (hn : L.Nodup) (h7 : ∀ x, x ∈ L → x < 128) (ha : ∀ x y, x ∈ L → y ∈ L → x ||| y = y → x = y) : L.length ≤ 35 := by
  have := pigeon_f (B := fun _ => true) (K := 35) (L := L) chn hn (fun x hx => ⟨chn_lt x (h7 x hx), rfl⟩) (fun x y hx hy e => by
    rcases chn_cmp x (h7 x hx) y (h7 y hy) e with c | c
    · exact ha x y hx hy c
    · exact (ha y x hy hx (by rw [Nat.or_comm]; exact c)).symm)
  exact Nat.le_trans this (by decide)
/-! the monomials: three variables in 12 chains, the other four in 44 -/
def tA : List (List Nat) := [[0, 1, 2, 3, 7, 11, 15, 31, 47, 63], [4, 5, 6, 10, 14, 30, 46, 62], [8, 9, 13, 29, 45, 61], [12, 28, 44, 60], [16, 17, 18, 19, 23, 27, 43, 59], [20, 21, 22, 26, 42, 58], [24, 25, 41, 57], [32, 33, 34, 35, 39, 55], [36, 37, 38, 54], [40, 56], [48, 49, 50, 51], [52, 53]]
def tB : List (List Nat) := [[0, 1, 2, 3, 7, 11, 15, 31, 47, 63, 127, 191, 255], [4, 5, 6, 10, 14, 30, 46, 62, 126, 190, 254], [8, 9, 13, 29, 45, 61, 125, 189, 253], [12, 28, 44, 60, 124, 188, 252], [16, 17, 18, 19, 23, 27, 43, 59, 123, 187, 251], [20, 21, 22, 26, 42, 58, 122, 186, 250], [24, 25, 41, 57, 121, 185, 249], [32, 33, 34, 35, 39, 55, 119, 183, 247], [36, 37, 38, 54, 118, 182, 246], [40, 56, 120, 184, 248], [48, 49, 50, 51, 115, 179, 243], [52, 53, 117, 181, 245], [64, 65, 66, 67, 71, 75, 79, 95, 111, 175, 239], [68, 69, 70, 74, 78, 94, 110, 174, 238], [72, 73, 77, 93, 109, 173, 237], [76, 92, 108, 172, 236], [80, 81, 82, 83, 87, 91, 107, 171, 235], [84, 85, 86, 90, 106, 170, 234], [88, 89, 105, 169, 233], [96, 97, 98, 99, 103, 167, 231], [100, 101, 102, 166, 230], [104, 168, 232], [112, 113, 114, 178, 242], [116, 180, 244], [128, 129, 130, 131, 135, 139, 143, 159, 223], [132, 133, 134, 138, 142, 158, 222], [136, 137, 141, 157, 221], [140, 156, 220], [144, 145, 146, 147, 151, 155, 219], [148, 149, 150, 154, 218], [152, 153, 217], [160, 161, 162, 163, 227], [164, 165, 229], [176, 177, 241], [192, 193, 194, 195, 199, 203, 207], [196, 197, 198, 202, 206], [200, 201, 205], [204], [208, 209, 210, 211, 215], [212, 213, 214], [216], [224, 225, 226], [228], [240]]
def iA : List Nat := [0, 1, 2, 3, 16, 17, 18, 4, 32, 33, 19, 5, 48, 34, 20, 6, 64, 65, 66, 67, 80, 81, 82, 68, 96, 97, 83, 69, 49, 35, 21, 7, 112, 113, 114, 115, 128, 129, 130, 116, 144, 98, 84, 70, 50, 36, 22, 8, 160, 161, 162, 163, 176, 177, 131, 117, 145, 99, 85, 71, 51, 37, 23, 9]
def iB : List (List Nat) := [[0, 1, 2, 3, 16, 17, 18, 4, 32, 33, 19, 5, 48, 34, 20, 6], [64, 65, 66, 67, 80, 81, 82, 68, 96, 97, 83, 69, 49, 35, 21, 7], [112, 113, 114, 115, 128, 129, 130, 116, 144, 98, 84, 70, 50, 36, 22, 8], [160, 161, 162, 163, 176, 177, 131, 117, 145, 99, 85, 71, 51, 37, 23, 9], [192, 193, 194, 195, 208, 209, 210, 196, 224, 225, 211, 197, 240, 226, 212, 198], [256, 257, 258, 259, 272, 273, 274, 260, 288, 289, 275, 261, 241, 227, 213, 199], [304, 305, 306, 307, 320, 321, 322, 308, 336, 290, 276, 262, 242, 228, 214, 200], [352, 353, 354, 164, 368, 178, 132, 118, 146, 100, 86, 72, 52, 38, 24, 10], [384, 385, 386, 387, 400, 401, 402, 388, 416, 417, 403, 389, 432, 418, 404, 390], [448, 449, 450, 451, 464, 465, 466, 452, 480, 481, 467, 453, 433, 419, 405, 391], [496, 497, 498, 499, 512, 513, 323, 309, 337, 291, 277, 263, 243, 229, 215, 201], [528, 529, 355, 165, 369, 179, 133, 119, 147, 101, 87, 73, 53, 39, 25, 11], [544, 545, 546, 547, 560, 561, 562, 548, 576, 577, 563, 549, 592, 578, 564, 550], [608, 609, 610, 611, 624, 625, 626, 612, 640, 482, 468, 454, 434, 420, 406, 392], [656, 657, 658, 500, 672, 514, 324, 310, 338, 292, 278, 264, 244, 230, 216, 202], [688, 530, 356, 166, 370, 180, 134, 120, 148, 102, 88, 74, 54, 40, 26, 12]]
def cA (i p : Nat) : Nat := (tA.getD i []).getD p 0
def cB (i p : Nat) : Nat := (tB.getD i []).getD p 0
def lA (i : Nat) : Nat := (tA.getD i []).length
def lB (i : Nat) : Nat := (tB.getD i []).length
def xA (a : Nat) : Nat := iA.getD a 0
def xB (b : Nat) : Nat := (iB.getD (b / 16) []).getD (b % 16) 0
def le4 (a b : Nat) : Bool := Nat.ble (a % 4) (b % 4) && Nat.ble (a / 4 % 4) (b / 4 % 4) && Nat.ble (a / 16 % 4) (b / 16 % 4) && Nat.ble (a / 64 % 4) (b / 64 % 4)
theorem le4_tr {a b c : Nat} (h1 : le4 a b = true) (h2 : le4 b c = true) : le4 a c = true := by
  simp only [le4, Bool.and_eq_true, Nat.ble_eq] at *
  omega
theorem le4_rf (a : Nat) : le4 a a = true := by simp [le4]
theorem xA_ok : ∀ a, a < 64 → xA a / 16 < 12 ∧ xA a % 16 < lA (xA a / 16) ∧ cA (xA a / 16) (xA a % 16) = a := by decide +kernel
theorem xB_ok : ∀ b, b < 256 → xB b / 16 < 44 ∧ xB b % 16 < lB (xB b / 16) ∧ cB (xB b / 16) (xB b % 16) = b := by decide +kernel
theorem cA_up : ∀ i, i < 12 → ∀ p, p < 16 → p + 1 < lA i → le4 (cA i p) (cA i (p + 1)) = true := by decide +kernel
theorem cB_up : ∀ i, i < 44 → ∀ p, p < 16 → p + 1 < lB i → le4 (cB i p) (cB i (p + 1)) = true := by decide +kernel
theorem lAB : (∀ i, i < 12 → lA i ≤ 13) ∧ (∀ i, i < 44 → lB i ≤ 13) := by decide +kernel
theorem cA_le {i p : Nat} (hi : i < 12) : ∀ k, p + k < lA i → le4 (cA i p) (cA i (p + k)) = true
  | 0, _ => le4_rf _
  | k + 1, h => le4_tr (cA_le hi k (by omega)) (by have := lAB.1 i hi; exact cA_up i hi (p + k) (by omega) (by omega))
theorem cB_le {i p : Nat} (hi : i < 44) : ∀ k, p + k < lB i → le4 (cB i p) (cB i (p + k)) = true
  | 0, _ => le4_rf _
  | k + 1, h => le4_tr (cB_le hi k (by omega)) (by have := lAB.2 i hi; exact cB_up i hi (p + k) (by omega) (by omega))
/-- where a monomial lies: its two chains, and its place in the shorter one -/
def mix (m : Nat) : Nat := (xA (m % 64) / 16 * 64 + xB (m / 64) / 16) * 16 + (if lA (xA (m % 64) / 16) ≤ lB (xB (m / 64) / 16) then xA (m % 64) % 16 else xB (m / 64) % 16)
def mixB (t : Nat) : Bool := Nat.blt (t % 16) (Nat.min (lA (t / 1024)) (lB (t / 16 % 64)))
theorem mixB_cnt : cntB mixB 12288 = 2128 := by
  have key : ∀ k, k ≤ 96 → cntB mixB (128 * k) = sumTo k (fun i => cntB (fun x => mixB (128 * i + x)) 128) := by
    intro k
    induction k with
    | zero => intro _; rfl
    | succ k ih =>
      intro hk
      rw [show 128 * (k + 1) = 128 * k + 128 by omega, cntB_add, ih (by omega)]
      rfl
  rw [show 12288 = 128 * 96 from rfl, key 96 (Nat.le_refl _)]
  decide +kernel
def dvd (a b : Nat) : Prop := ∀ v, v < 7 → ex a v ≤ ex b v
theorem dvd_le4 {a b : Nat} (h1 : le4 (a % 64) (b % 64) = true) (h2 : le4 (a / 64) (b / 64) = true) : dvd a b := by
  simp only [le4, Bool.and_eq_true, Nat.ble_eq] at h1 h2
  have e0 : ∀ x : Nat, ex x 0 = x % 64 % 4 := fun x => by show x / 1 % 4 = _; omega
  have e1 : ∀ x : Nat, ex x 1 = x % 64 / 4 % 4 := fun x => by show x / 4 % 4 = _; omega
  have e2 : ∀ x : Nat, ex x 2 = x % 64 / 16 % 4 := fun x => by show x / 16 % 4 = _; omega
  have e3 : ∀ x : Nat, ex x 3 = x / 64 % 4 := fun x => rfl
  have e4 : ∀ x : Nat, ex x 4 = x / 64 / 4 % 4 := fun x => by rw [Nat.div_div_eq_div_mul]; rfl
  have e5 : ∀ x : Nat, ex x 5 = x / 64 / 16 % 4 := fun x => by rw [Nat.div_div_eq_div_mul]; rfl
  have e6 : ∀ x : Nat, ex x 6 = x / 64 / 64 % 4 := fun x => by rw [Nat.div_div_eq_div_mul]; rfl
  intro v hv
  rcases (show v = 0 ∨ v = 1 ∨ v = 2 ∨ v = 3 ∨ v = 4 ∨ v = 5 ∨ v = 6 by omega) with rfl | rfl | rfl | rfl | rfl | rfl | rfl
  · rw [e0, e0]; exact h1.1.1.1
  · rw [e1, e1]; exact h1.1.1.2
  · rw [e2, e2]; exact h1.1.2
  · rw [e3, e3]; exact h2.1.1.1
  · rw [e4, e4]; exact h2.1.1.2
  · rw [e5, e5]; exact h2.1.2
  · rw [e6, e6]; exact h2.2
theorem anti2128 {L : List Nat} (hn : L.Nodup) (hL : ∀ x, x ∈ L → x < 16384) (ha : ∀ x y, x ∈ L → y ∈ L → dvd x y → x = y) : L.length ≤ 2128 := by
  rw [← mixB_cnt]
  have pos : ∀ x, x ∈ L → (xA (x % 64) / 16 < 12 ∧ xA (x % 64) % 16 < lA (xA (x % 64) / 16) ∧ cA (xA (x % 64) / 16) (xA (x % 64) % 16) = x % 64) ∧ (xB (x / 64) / 16 < 44 ∧ xB (x / 64) % 16 < lB (xB (x / 64) / 16) ∧ cB (xB (x / 64) / 16) (xB (x / 64) % 16) = x / 64) := by
    intro x hx
    have := hL x hx
    exact ⟨xA_ok _ (by omega), xB_ok _ (by omega)⟩
  refine pigeon_f mix hn (fun x hx => ?_) (fun x y hx hy e => ?_)
  · obtain ⟨⟨a1, a2, a3⟩, ⟨b1, b2, b3⟩⟩ := pos x hx
    have e1 : mix x / 1024 = xA (x % 64) / 16 := by unfold mix; split <;> omega
    have e2 : mix x / 16 % 64 = xB (x / 64) / 16 := by unfold mix; split <;> omega
    have e3 : mix x % 16 = (if lA (xA (x % 64) / 16) ≤ lB (xB (x / 64) / 16) then xA (x % 64) % 16 else xB (x / 64) % 16) := by unfold mix; split <;> omega
    refine ⟨by unfold mix; split <;> omega, ?_⟩
    unfold mixB
    rw [e1, e2, e3, Nat.blt_eq]
    split
    · next c => rw [show Nat.min (lA (xA (x % 64) / 16)) (lB (xB (x / 64) / 16)) = lA (xA (x % 64) / 16) from Nat.min_eq_left c]; exact a2
    · next c => rw [show Nat.min (lA (xA (x % 64) / 16)) (lB (xB (x / 64) / 16)) = lB (xB (x / 64) / 16) from Nat.min_eq_right (by omega)]; exact b2
  · obtain ⟨⟨a1, a2, a3⟩, ⟨b1, b2, b3⟩⟩ := pos x hx
    obtain ⟨⟨c1, c2, c3⟩, ⟨d1, d2, d3⟩⟩ := pos y hy
    have i1 : xA (x % 64) / 16 = xA (y % 64) / 16 := by
      have e1 : mix x / 1024 = xA (x % 64) / 16 := by unfold mix; split <;> omega
      have e2 : mix y / 1024 = xA (y % 64) / 16 := by unfold mix; split <;> omega
      rw [← e1, ← e2, e]
    have i2 : xB (x / 64) / 16 = xB (y / 64) / 16 := by
      have e1 : mix x / 16 % 64 = xB (x / 64) / 16 := by unfold mix; split <;> omega
      have e2 : mix y / 16 % 64 = xB (y / 64) / 16 := by unfold mix; split <;> omega
      rw [← e1, ← e2, e]
    have i3 : (if lA (xA (x % 64) / 16) ≤ lB (xB (x / 64) / 16) then xA (x % 64) % 16 else xB (x / 64) % 16) = (if lA (xA (y % 64) / 16) ≤ lB (xB (y / 64) / 16) then xA (y % 64) % 16 else xB (y / 64) % 16) := by
      have e1 : mix x % 16 = (if lA (xA (x % 64) / 16) ≤ lB (xB (x / 64) / 16) then xA (x % 64) % 16 else xB (x / 64) % 16) := by unfold mix; split <;> omega
      have e2 : mix y % 16 = (if lA (xA (y % 64) / 16) ≤ lB (xB (y / 64) / 16) then xA (y % 64) % 16 else xB (y / 64) % 16) := by unfold mix; split <;> omega
      rw [← e1, ← e2, e]
    rw [← i1, ← i2] at i3
    rw [← i1] at c2 c3
    rw [← i2] at d2 d3
    -- along one chain one of the two divides the other
    have cmpA : le4 (x % 64) (y % 64) = true ∨ le4 (y % 64) (x % 64) = true := by
      rcases Nat.le_total (xA (x % 64) % 16) (xA (y % 64) % 16) with c | c
      · left
        have := cA_le (p := xA (x % 64) % 16) a1 (xA (y % 64) % 16 - xA (x % 64) % 16) (by omega)
        rw [a3, show xA (x % 64) % 16 + (xA (y % 64) % 16 - xA (x % 64) % 16) = xA (y % 64) % 16 by omega, c3] at this
        exact this
      · right
        have := cA_le (p := xA (y % 64) % 16) a1 (xA (x % 64) % 16 - xA (y % 64) % 16) (by omega)
        rw [c3, show xA (y % 64) % 16 + (xA (x % 64) % 16 - xA (y % 64) % 16) = xA (x % 64) % 16 by omega, a3] at this
        exact this
    have cmpB : le4 (x / 64) (y / 64) = true ∨ le4 (y / 64) (x / 64) = true := by
      rcases Nat.le_total (xB (x / 64) % 16) (xB (y / 64) % 16) with c | c
      · left
        have := cB_le (p := xB (x / 64) % 16) b1 (xB (y / 64) % 16 - xB (x / 64) % 16) (by omega)
        rw [b3, show xB (x / 64) % 16 + (xB (y / 64) % 16 - xB (x / 64) % 16) = xB (y / 64) % 16 by omega, d3] at this
        exact this
      · right
        have := cB_le (p := xB (y / 64) % 16) b1 (xB (x / 64) % 16 - xB (y / 64) % 16) (by omega)
        rw [d3, show xB (y / 64) % 16 + (xB (x / 64) % 16 - xB (y / 64) % 16) = xB (x / 64) % 16 by omega, b3] at this
        exact this
    by_cases c : lA (xA (x % 64) / 16) ≤ lB (xB (x / 64) / 16)
    · rw [if_pos c, if_pos c] at i3
      have hA : x % 64 = y % 64 := by rw [← a3, ← c3, i3]
      rcases cmpB with q | q
      · exact ha x y hx hy (dvd_le4 (by rw [hA]; exact le4_rf _) q)
      · exact (ha y x hy hx (dvd_le4 (by rw [hA]; exact le4_rf _) q)).symm
    · rw [if_neg c, if_neg c] at i3
      have hB : x / 64 = y / 64 := by rw [← b3, ← d3, i3]
      rcases cmpA with q | q
      · exact ha x y hx hy (dvd_le4 q (by rw [hB]; exact le4_rf _))
      · exact (ha y x hy hx (dvd_le4 q (by rw [hB]; exact le4_rf _))).symm
end SEL
