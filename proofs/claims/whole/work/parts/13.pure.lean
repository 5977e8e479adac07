/-! ===== PURE: numbers, lanes, scenes ===== -/
/-- an int that is a number below n -/
def hB (n : Nat) (x : Int32) : Bool := decide (¬ x < 0 ∧ ¬ nI n ≤ x)
theorem hB_nI {n k : Nat} (hk : k < 2 ^ 31) (hn : n < 2 ^ 31) : hB n (nI k) = decide (k < n) := by
  unfold hB
  have h1 : ¬ nI k < 0 := nI_pos hk
  by_cases h : k < n
  · simp [h1, nI_ge h hn, h]
  · have h2 : nI n ≤ nI k := nI_le (by omega) hk
    simp [h2, h]
theorem hB_some {n : Nat} {x : Int32} (hn : n < 2 ^ 31) (h : hB n x = true) : ∃ k : Nat, k < n ∧ x = nI k := by
  simp only [hB, decide_eq_true_eq] at h
  rcases pk_ix x hn with q | q | q
  · exact absurd q h.1
  · exact absurd q h.2
  · exact q
theorem hB_none {n k : Nat} (hn : n < 2 ^ 31) (h : hB n (nI k) = false) (hk : k < n) : False := by
  rw [hB_nI (by omega) hn] at h
  simp at h
  omega
theorem nI_le0 {n : Nat} (hn : n < 2 ^ 31) : nI n ≤ 0 ↔ n = 0 := by
  constructor
  · intro h
    rcases Nat.eq_zero_or_pos n with q | q
    · exact q
    · exact absurd h (nI_nle q hn)
  · rintro rfl
    exact (nI_leI (a := 0) (b := 0) (by decide) (by decide)).mpr (Nat.le_refl _)
abbrev LN : Type := Nat × Nat × Nat × (Nat → Nat) × (Nat → Nat) × (Nat → Nat) × (Nat → Nat) × (Nat → Nat) × (Nat → Nat)
def ln_n (l : LN) : Nat := l.1
def ln_s (l : LN) : Nat := l.2.1
def ln_r (l : LN) : Nat := l.2.2.1
def ln_wall (l : LN) : Nat → Nat := l.2.2.2.1
def ln_kind (l : LN) : Nat → Nat := l.2.2.2.2.1
def ln_place (l : LN) : Nat → Nat := l.2.2.2.2.2.1
def ln_thing (l : LN) : Nat → Nat := l.2.2.2.2.2.2.1
def ln_loud (l : LN) : Nat → Nat := l.2.2.2.2.2.2.2.1
def ln_rain (l : LN) : Nat → Nat := l.2.2.2.2.2.2.2.2
/-- the rain of an hour -/
def ln_rainAt (l : LN) (h : Nat) : Nat := if ln_r l = 0 then 0 else ln_rain l (h % ln_r l)
def LnOK (l : LN) : Prop := ln_n l ≤ 5 ∧ ln_s l ≤ 8 ∧ ln_r l ≤ 4 ∧ (∀ j, j < ln_n l → ln_wall l j ≤ 9 ∧ ln_kind l j ≤ 3) ∧ (∀ j, j < ln_s l → ln_place l j < ln_n l ∧ ln_thing l j < 6 ∧ ln_loud l j ≤ 9) ∧ ∀ j, j < ln_r l → ln_rain l j ≤ 9
def LaneR (M : MM) (b : Nat) (l : LN) : Prop := M b 0 = nI (ln_n l) ∧ M b 1 = nI (ln_s l) ∧ M b 2 = nI (ln_r l) ∧ (∀ j, j < ln_n l → M (b + 1) j = nI (ln_wall l j)) ∧ (∀ j, j < ln_n l → M (b + 2) j = nI (ln_kind l j)) ∧ (∀ j, j < ln_s l → M (b + 3) j = nI (ln_place l j)) ∧ (∀ j, j < ln_s l → M (b + 4) j = nI (ln_thing l j)) ∧ (∀ j, j < ln_s l → M (b + 5) j = nI (ln_loud l j)) ∧ ∀ j, j < ln_r l → M (b + 6) j = nI (ln_rain l j)
theorem LaneR.keep {M M' : MM} {b : Nat} {l : LN} (h : LaneR M b l) (hk : ∀ i, b ≤ i → i ≤ b + 6 → M' i = M i) : LaneR M' b l := by
  unfold LaneR at h ⊢
  rw [hk b (by omega) (by omega), hk (b + 1) (by omega) (by omega), hk (b + 2) (by omega) (by omega), hk (b + 3) (by omega) (by omega), hk (b + 4) (by omega) (by omega), hk (b + 5) (by omega) (by omega), hk (b + 6) (by omega) (by omega)]
  exact h
abbrev SC : Type := (Nat → Nat) × (Nat → Nat) × (Nat → Int) × Nat × Nat
def sc_who (c : SC) : Nat → Nat := c.1
def sc_kn (c : SC) : Nat → Nat := c.2.1
def sc_vo (c : SC) : Nat → Int := c.2.2.1
def sc_dry (c : SC) : Nat := c.2.2.2.1
def sc_hr (c : SC) : Nat := c.2.2.2.2
def oI (z : Int) : Int32 := Int32.ofInt z
def SceneR (M : MM) (s : Nat) (c : SC) : Prop := (∀ j, j < 5 → M (s + 1) j = nI (sc_who c j)) ∧ (∀ j, j < 5 → M (s + 2) j = nI (sc_kn c j)) ∧ (∀ j, j < 5 → M (s + 3) j = oI (sc_vo c j)) ∧ M s 4 = nI (sc_dry c) ∧ M s 5 = nI (sc_hr c)
theorem SceneR.keep {M M' : MM} {s : Nat} {c : SC} (h : SceneR M s c) (hk : ∀ i, s ≤ i → i ≤ s + 3 → M' i = M i) : SceneR M' s c := by
  unfold SceneR at h ⊢
  rw [hk s (by omega) (by omega), hk (s + 1) (by omega) (by omega), hk (s + 2) (by omega) (by omega), hk (s + 3) (by omega) (by omega)]
  exact h
/-- a scene of n houses is a scene that can be: who is where, things 0 to 63, voices, dry, the hour below b -/
def ScOK (n b : Nat) (c : SC) : Prop := (∀ j, j < n → sc_who c j < n) ∧ (∀ i j, i < n → j < n → sc_who c i = sc_who c j → i = j) ∧ (∀ j, sc_kn c j < 64) ∧ (∀ j, -3 ≤ sc_vo c j ∧ sc_vo c j ≤ 3) ∧ sc_dry c ≤ 9 ∧ sc_hr c ≤ b
/-- only the cells of scene s may differ -/
def OnlyS (s : Nat) (M M' : MM) : Prop := ∀ i, (i < s ∨ s + 3 < i) → M' i = M i
theorem oI_add (a b : Int) : oI a + oI b = oI (a + b) := by simp [oI, Int32.ofInt_add]
theorem oI_sub (a b : Int) : oI a - oI b = oI (a - b) := by simp [oI, Int32.ofInt_sub]
theorem oI_mul (a b : Int) : oI a * oI b = oI (a * b) := by simp [oI, Int32.ofInt_mul]
theorem nI_oI (n : Nat) : nI n = oI (n : Int) := Int32.ofInt_eq_ofNat.symm
theorem oI_toInt {z : Int} (h1 : -2147483648 ≤ z) (h2 : z < 2147483648) : (oI z).toInt = z := by
  exact Int32.toInt_ofInt_of_le (by omega) (by omega)
theorem oI_lt {a b : Int} (ha : -2147483648 ≤ a) (ha2 : a < 2147483648) (hb : -2147483648 ≤ b) (hb2 : b < 2147483648) : oI a < oI b ↔ a < b := by
  rw [Int32.lt_iff_toInt_lt, oI_toInt ha ha2, oI_toInt hb hb2]
theorem oI_le {a b : Int} (ha : -2147483648 ≤ a) (ha2 : a < 2147483648) (hb : -2147483648 ≤ b) (hb2 : b < 2147483648) : oI a ≤ oI b ↔ a ≤ b := by
  rw [Int32.le_iff_toInt_le, oI_toInt ha ha2, oI_toInt hb hb2]
theorem oI_eq {a b : Int} (ha : -2147483648 ≤ a) (ha2 : a < 2147483648) (hb : -2147483648 ≤ b) (hb2 : b < 2147483648) : oI a = oI b ↔ a = b := by
  rw [← Int32.toInt_inj, oI_toInt ha ha2, oI_toInt hb hb2]
