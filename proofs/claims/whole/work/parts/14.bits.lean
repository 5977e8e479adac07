/-! ===== PURE: bits ===== -/
theorem fa_and (a b : Nat) : nI a &&& nI b = nI (a &&& b) := by
  apply Int32.toBitVec_inj.mp
  apply BitVec.eq_of_toNat_eq
  simp only [nI, Int32.toBitVec_and, Int32.toBitVec_ofNat', BitVec.toNat_and, BitVec.toNat_ofNat]
  apply Nat.eq_of_testBit_eq
  intro i
  simp only [Nat.testBit_and, Nat.testBit_mod_two_pow]
  by_cases h : i < 32 <;> simp [h]
theorem fa_or (a b : Nat) : nI a ||| nI b = nI (a ||| b) := by
  apply Int32.toBitVec_inj.mp
  apply BitVec.eq_of_toNat_eq
  simp only [nI, Int32.toBitVec_or, Int32.toBitVec_ofNat', BitVec.toNat_or, BitVec.toNat_ofNat]
  apply Nat.eq_of_testBit_eq
  intro i
  simp only [Nat.testBit_or, Nat.testBit_mod_two_pow]
  by_cases h : i < 32 <;> simp [h]
theorem fa_xor (a b : Nat) : nI a ^^^ nI b = nI (a ^^^ b) := by
  apply Int32.toBitVec_inj.mp
  apply BitVec.eq_of_toNat_eq
  simp only [nI, Int32.toBitVec_xor, Int32.toBitVec_ofNat', BitVec.toNat_xor, BitVec.toNat_ofNat]
  apply Nat.eq_of_testBit_eq
  intro i
  simp only [Nat.testBit_xor, Nat.testBit_mod_two_pow]
  by_cases h : i < 32 <;> simp [h]
theorem fa_xor0 {a b : Nat} (ha : a < 2 ^ 31) (hb : b < 2 ^ 31) : (0 : Int32) ≤ nI a ^^^ nI b := by
  rw [fa_xor]
  exact nI_le (a := 0) (Nat.zero_le _) (Nat.xor_lt_two_pow ha hb)
theorem sh_k : ∀ k : Nat, k < 31 → ((nI k &&& 31).toBitVec.smod 32).toNat = k := by decide +kernel
theorem sh_r {n k : Nat} (hn : n < 2 ^ 31) (hk : k < 31) : nI n >>> (nI k &&& 31) = nI (n / 2 ^ k) := pk_shrN hn _ k (sh_k k hk)
theorem bt_and1 {n : Nat} (h : n < 2 ^ 32) : nI n &&& 1 = nI (n % 2) := pk_andN h 1 (by decide)
theorem bt_at {n k : Nat} (hn : n < 2 ^ 31) (hk : k < 31) : nI n >>> (nI k &&& 31) &&& 1 = bI (n.testBit k) := by
  have h1 : n / 2 ^ k ≤ n := Nat.div_le_self _ _
  rw [sh_r hn hk, bt_and1 (by omega), Nat.testBit_eq_decide_div_mod_eq]
  have h2 : n / 2 ^ k % 2 < 2 := Nat.mod_lt _ (by decide)
  rcases (show n / 2 ^ k % 2 = 0 ∨ n / 2 ^ k % 2 = 1 by omega) with h | h <;> rw [h] <;> rfl
theorem bt_sub : ∀ a : Nat, a < 64 → ∀ b : Nat, b < 64 → (nI a &&& (nI b ^^^ -1) = 0 ↔ b ||| a = b) := by decide +kernel
/-- how many below n -/
def ctB (p : Nat → Bool) : Nat → Nat
  | 0 => 0
  | n + 1 => ctB p n + if p n then 1 else 0
/-- the set (bits) of those below n -/
def mkB (p : Nat → Bool) : Nat → Nat
  | 0 => 0
  | n + 1 => mkB p n ||| if p n then 2 ^ n else 0
/-- what those below n have together (bits) -/
def orB (p : Nat → Bool) (f : Nat → Nat) : Nat → Nat
  | 0 => 0
  | n + 1 => orB p f n ||| if p n then f n else 0
def smB (f : Nat → Nat) : Nat → Nat
  | 0 => 0
  | n + 1 => smB f n + f n
def pop (a : Nat) : Nat := ctB a.testBit 8
theorem mkB_lt (p : Nat → Bool) : ∀ n, mkB p n < 2 ^ n
  | 0 => Nat.one_pos
  | n + 1 => by
    have h := mkB_lt p n
    have h2 : 2 ^ n < 2 ^ (n + 1) := by rw [Nat.pow_succ]; omega
    refine Nat.or_lt_two_pow (by omega) ?_
    split
    · exact h2
    · exact Nat.two_pow_pos _
theorem mkB_bit (p : Nat → Bool) : ∀ n j, (mkB p n).testBit j = (decide (j < n) && p j)
  | 0, j => by simp [mkB]
  | n + 1, j => by
    rw [mkB, Nat.testBit_or, mkB_bit p n j]
    by_cases hj : j = n
    · subst hj
      by_cases hp : p j = true
      · simp [hp, Nat.testBit_two_pow_self]
      · simp [hp]
    · have e : (if p n = true then 2 ^ n else 0).testBit j = false := by
        split
        · rw [Nat.testBit_two_pow]; simp; omega
        · simp
      rw [e, Bool.or_false]
      congr 1
      simp; omega
theorem mkB_cong {p q : Nat → Bool} : ∀ {n : Nat}, (∀ k, k < n → p k = q k) → mkB p n = mkB q n
  | 0, _ => rfl
  | n + 1, h => by rw [mkB, mkB, mkB_cong (fun k hk => h k (by omega)), h n (by omega)]
theorem ctB_cong {p q : Nat → Bool} : ∀ {n : Nat}, (∀ k, k < n → p k = q k) → ctB p n = ctB q n
  | 0, _ => rfl
  | n + 1, h => by rw [ctB, ctB, ctB_cong (fun k hk => h k (by omega)), h n (by omega)]
theorem ctB_le (p : Nat → Bool) : ∀ n, ctB p n ≤ n
  | 0 => Nat.le_refl _
  | n + 1 => by
    have := ctB_le p n
    rw [ctB]; split <;> omega
theorem orB_cong {p q : Nat → Bool} {f h : Nat → Nat} : ∀ {n : Nat}, (∀ k, k < n → p k = q k) → (∀ k, k < n → f k = h k) → orB p f n = orB q h n
  | 0, _, _ => rfl
  | n + 1, e, e2 => by rw [orB, orB, orB_cong (fun k hk => e k (by omega)) (fun k hk => e2 k (by omega)), e n (by omega), e2 n (by omega)]
theorem orB_lt {p : Nat → Bool} {f : Nat → Nat} {w : Nat} : ∀ {n : Nat}, (∀ k, k < n → f k < 2 ^ w) → orB p f n < 2 ^ w
  | 0, _ => Nat.two_pow_pos _
  | n + 1, h => by
    rw [orB]
    refine Nat.or_lt_two_pow (orB_lt (fun k hk => h k (by omega))) ?_
    split
    · exact h n (by omega)
    · exact Nat.two_pow_pos _
theorem orB_bit {p : Nat → Bool} {f : Nat → Nat} {j : Nat} : ∀ {n : Nat}, (orB p f n).testBit j = true ↔ ∃ k, k < n ∧ p k = true ∧ (f k).testBit j = true
  | 0 => by simp [orB]
  | n + 1 => by
    rw [orB, Nat.testBit_or, Bool.or_eq_true, orB_bit (n := n)]
    constructor
    · rintro (⟨k, h1, h2, h3⟩ | h)
      · exact ⟨k, by omega, h2, h3⟩
      · by_cases hp : p n = true
        · rw [if_pos hp] at h; exact ⟨n, by omega, hp, h⟩
        · rw [if_neg hp] at h; simp at h
    · rintro ⟨k, h1, h2, h3⟩
      by_cases hk : k = n
      · subst hk; right; rw [if_pos h2]; exact h3
      · left; exact ⟨k, by omega, h2, h3⟩
theorem smB_cong {f h : Nat → Nat} : ∀ {n : Nat}, (∀ k, k < n → f k = h k) → smB f n = smB h n
  | 0, _ => rfl
  | n + 1, e => by rw [smB, smB, smB_cong (fun k hk => e k (by omega)), e n (by omega)]
theorem pop_mkB {p : Nat → Bool} : ∀ n, n ≤ 8 → pop (mkB p n) = ctB p n := by
  intro n hn
  have h1 : ∀ m, m ≤ n → ctB (mkB p n).testBit m = ctB p m := fun m hm => ctB_cong (fun k hk => by rw [mkB_bit]; simp; omega)
  have h2 : ∀ m, ctB (mkB p n).testBit (n + m) = ctB (mkB p n).testBit n := by
    intro m
    induction m with
    | zero => rfl
    | succ m ih =>
      rw [← Nat.add_assoc, ctB, ih, mkB_bit]
      simp
      intro h
      omega
  have h3 := h2 (8 - n)
  rw [show n + (8 - n) = 8 by omega] at h3
  rw [pop, h3, h1 n (Nat.le_refl _)]
theorem pop_lt (a : Nat) : pop a ≤ 8 := ctB_le _ _
/-- java/lang/Integer.bitCount, as it is computed -/
def bcE (x : Int32) : Int32 :=
  let us := fun (x y : Int32) => (x.toUInt32 >>> (y.toUInt32 &&& Int32.toUInt32 31)).toInt32
  let x1 := x - (us x 1 &&& 1431655765)
  let x2 := (x1 &&& 858993459) + (us x1 2 &&& 858993459)
  let x3 := (x2 + us x2 4) &&& 252645135
  let x4 := x3 + us x3 8
  let x5 := x4 + us x4 16
  x5 &&& 63
theorem bc_ok : ∀ a : Nat, a < 64 → bcE (nI a) = nI (pop a) := by decide +kernel
