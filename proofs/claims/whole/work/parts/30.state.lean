/-! ===== THE STATE: text, lane, scene, acts (the last one first), kept, heard, seed ===== -/
abbrev TX : Type := Nat × (Nat → Nat)
abbrev ST : Type := TX × LN × SC × List SC × (Nat → Option SC) × HD × Int64
def st_n (S : ST) : Nat := S.1.1
def st_t (S : ST) : Nat → Nat := S.1.2
def st_l (S : ST) : LN := S.2.1
def st_c (S : ST) : SC := S.2.2.1
def st_a (S : ST) : List SC := S.2.2.2.1
def st_k (S : ST) : Nat → Option SC := S.2.2.2.2.1
def st_h (S : ST) : HD := S.2.2.2.2.2.1
def st_s (S : ST) : Int64 := S.2.2.2.2.2.2
def kx (x : Int32) : Nat := x.toNatClampNeg
theorem kx_nI {k : Nat} (h : k < 2 ^ 31) : kx (nI k) = k := nI_clamp h
def setT (S : ST) (t : TX) : ST := (t, S.2)
/-- an act: the scene then; the scene ahead of it in the row -/
def setA (S : ST) (c : SC) : ST := (S.1, st_l S, c, (st_c S :: st_a S).take 14, st_k S, st_h S, st_s S)
def setH (S : ST) (h : HD) : ST := (S.1, st_l S, st_c S, st_a S, st_k S, h, st_s S)
def setS (S : ST) (z : Int64) : ST := (S.1, st_l S, st_c S, st_a S, st_k S, st_h S, z)
def KeptR (M : MM) (k : Nat → Option SC) : Prop := ∀ j, j < 2 → M 3 j = bI (k j).isSome ∧ ∀ c, k j = some c → SceneR M (94 + 4 * j) c
def RC (M : MM) (L : LL) (S : ST) : Prop := M 0 1 = nI (st_n S) ∧ (∀ j, j < st_n S → M 1 j = nI (st_t S j)) ∧ LaneR M 16 (st_l S) ∧ SceneR M 30 (st_c S) ∧ ActsR M (st_a S) ∧ KeptR M (st_k S) ∧ HeardR M (st_h S) ∧ L 0 = st_s S
def StOK (b : Nat) (S : ST) : Prop := st_n S ≤ 64 ∧ (∀ j, j < st_n S → st_t S j ≤ 255) ∧ LnOK (st_l S) ∧ ScOK (ln_n (st_l S)) b (st_c S) ∧ (∀ c, c ∈ st_a S → ScOK (ln_n (st_l S)) b c) ∧ (∀ j c, st_k S j = some c → ScOK (ln_n (st_l S)) b c) ∧ HdOK (st_h S) ∧ b < 2 ^ 20
/-- only cells that a call tries on may differ -/
def OnlySc (M M' : MM) : Prop := ∀ i, ¬ (4 ≤ i ∧ i ≤ 9) → ¬ (23 ≤ i ∧ i ≤ 29) → ¬ (34 ≤ i ∧ i ≤ 37) → M' i = M i
theorem OnlySc.rf {M : MM} : OnlySc M M := fun _ _ _ _ => rfl
theorem OnlySc.tr {M M' M'' : MM} (h : OnlySc M M') (h2 : OnlySc M' M'') : OnlySc M M'' := fun i a b c => (h2 i a b c).trans (h i a b c)
theorem OnlySc.tri {M M' : MM} (h : OnlyB 34 37 M M') : OnlySc M M' := fun i a b c => h i (by omega)
theorem OnlySc.rd {M M' : MM} (h : OnlyRd M M') : OnlySc M M' := fun i a b c => h i (by omega) (by omega) (by omega)
theorem OnlySc.up {M M' : MM} {i : Nat} {r : Nat → Int32} (e : M' = va_up M i r) (h1 : 4 ≤ i) (h2 : i ≤ 9) : OnlySc M M' := fun j a b c => by rw [e, va_up_ne _ _ (by omega)]
theorem OnlySc.all {M M' : MM} (h : OnlySc M M') : OnlyB 0 101 M M' := fun i hi => h i (by omega) (by omega) (by omega)
theorem KeptR.keep {M M' : MM} {k : Nat → Option SC} (h : KeptR M k) (h3 : M' 3 = M 3) (hk : ∀ i, 94 ≤ i → i ≤ 101 → M' i = M i) : KeptR M' k := fun j hj => ⟨by rw [h3]; exact (h j hj).1, fun c hc => ((h j hj).2 c hc).keep (fun i h1 h2 => hk i (by omega) (by omega))⟩
theorem RC.sc {M M' : MM} {L L' : LL} {S : ST} (h : RC M L S) (hk : OnlySc M M') (hL : L' 0 = L 0) : RC M' L' S := by
  obtain ⟨h1, h2, h3, h4, h5, h6, h7, h8⟩ := h
  refine ⟨by rw [hk 0 (by omega) (by omega) (by omega)]; exact h1, by rw [hk 1 (by omega) (by omega) (by omega)]; exact h2, h3.keep (fun i a b => hk i (by omega) (by omega) (by omega)), h4.keep (fun i a b => hk i (by omega) (by omega) (by omega)), h5.keep (hk 10 (by omega) (by omega) (by omega)) (fun i a b => hk i (by omega) (by omega) (by omega)), h6.keep (hk 3 (by omega) (by omega) (by omega)) (fun i a b => hk i (by omega) (by omega) (by omega)), h7.keep (fun i a b => hk i (by omega) (by omega) (by omega)), by rw [hL]; exact h8⟩
/-- behind an act -/
theorem RC.act {M M' : MM} {L : LL} {S : ST} {c : SC} (h : RC M L S) (hc : SceneR M' 30 c) (ha : ActsR M' ((st_c S :: st_a S).take 14)) (hk : ∀ i, i ≠ 10 → (i < 30 ∨ 33 < i) → (i < 38 ∨ 93 < i) → M' i = M i) : RC M' L (setA S c) := by
  obtain ⟨h1, h2, h3, h4, h5, h6, h7, h8⟩ := h
  exact ⟨by rw [hk 0 (by omega) (by omega) (by omega)]; exact h1, by rw [hk 1 (by omega) (by omega) (by omega)]; exact h2, h3.keep (fun i a b => hk i (by omega) (by omega) (by omega)), hc, ha, h6.keep (hk 3 (by omega) (by omega) (by omega)) (fun i a b => hk i (by omega) (by omega) (by omega)), h7.keep (fun i a b => hk i (by omega) (by omega) (by omega)), h8⟩
/-- what a call of the first system leaves: its answer, its state; of the second one nothing changes -/
def QC (M : MM) (L : LL) (rs : Int32 × ST) : Option Value → MM → LL → Prop := fun v M' L' => v = some (.int rs.1) ∧ RC M' L' rs.2 ∧ OnlyB 0 101 M M' ∧ L' 102 = L 102
theorem sw_k (x : Int32) {n : Nat} (hn : n < 2 ^ 31) : (x.toInt < 0 ∨ (n : Int) < x.toInt) ∨ ∃ k : Nat, k ≤ n ∧ x = nI k := by
  by_cases h0 : x.toInt < 0
  · exact Or.inl (Or.inl h0)
  · by_cases h1 : (n : Int) < x.toInt
    · exact Or.inl (Or.inr h1)
    · right
      refine ⟨x.toInt.toNat, by omega, ?_⟩
      rw [← Int32.toInt_inj, nI_toInt (by omega)]
      omega
theorem nI_lit (n : Nat) : nI n = (OfNat.ofNat n : Int32) := rfl
theorem sw2 (x : Int32) : (x.toInt < 0 ∨ 2 < x.toInt) ∨ x = 0 ∨ x = 1 ∨ x = 2 := by
  rcases sw_k x (n := 2) (by decide) with h | ⟨k, hk, h⟩
  · exact Or.inl h
  · right
    subst h
    rcases (show k = 0 ∨ k = 1 ∨ k = 2 by omega) with h | h | h <;> subst h <;> simp [nI_lit]
theorem sw2n {x : Int32} (h : x.toInt < 0 ∨ 2 < x.toInt) : x ≠ 0 ∧ x ≠ 1 ∧ x ≠ 2 := by
  refine ⟨?_, ?_, ?_⟩ <;> (rintro rfl; revert h; decide)
theorem sw5 (x : Int32) : (x.toInt < 0 ∨ 5 < x.toInt) ∨ x = 0 ∨ x = 1 ∨ x = 2 ∨ x = 3 ∨ x = 4 ∨ x = 5 := by
  rcases sw_k x (n := 5) (by decide) with h | ⟨k, hk, h⟩
  · exact Or.inl h
  · right
    subst h
    rcases (show k = 0 ∨ k = 1 ∨ k = 2 ∨ k = 3 ∨ k = 4 ∨ k = 5 by omega) with h | h | h | h | h | h <;> subst h <;> simp [nI_lit]
theorem sw5n {x : Int32} (h : x.toInt < 0 ∨ 5 < x.toInt) : x ≠ 0 ∧ x ≠ 1 ∧ x ≠ 2 ∧ x ≠ 3 ∧ x ≠ 4 ∧ x ≠ 5 := by
  refine ⟨?_, ?_, ?_, ?_, ?_, ?_⟩ <;> (rintro rfl; revert h; decide)
theorem sw6 (x : Int32) : (x.toInt < 0 ∨ 6 < x.toInt) ∨ x = 0 ∨ x = 1 ∨ x = 2 ∨ x = 3 ∨ x = 4 ∨ x = 5 ∨ x = 6 := by
  rcases sw_k x (n := 6) (by decide) with h | ⟨k, hk, h⟩
  · exact Or.inl h
  · right
    subst h
    rcases (show k = 0 ∨ k = 1 ∨ k = 2 ∨ k = 3 ∨ k = 4 ∨ k = 5 ∨ k = 6 by omega) with h | h | h | h | h | h | h <;> subst h <;> simp [nI_lit]
theorem sw6n {x : Int32} (h : x.toInt < 0 ∨ 6 < x.toInt) : x ≠ 0 ∧ x ≠ 1 ∧ x ≠ 2 ∧ x ≠ 3 ∧ x ≠ 4 ∧ x ≠ 5 ∧ x ≠ 6 := by
  refine ⟨?_, ?_, ?_, ?_, ?_, ?_, ?_⟩ <;> (rintro rfl; revert h; decide)
theorem sw11 (x : Int32) : (x.toInt < 0 ∨ 11 < x.toInt) ∨ x = 0 ∨ x = 1 ∨ x = 2 ∨ x = 3 ∨ x = 4 ∨ x = 5 ∨ x = 6 ∨ x = 7 ∨ x = 8 ∨ x = 9 ∨ x = 10 ∨ x = 11 := by
  rcases sw_k x (n := 11) (by decide) with h | ⟨k, hk, h⟩
  · exact Or.inl h
  · right
    subst h
    rcases (show k = 0 ∨ k = 1 ∨ k = 2 ∨ k = 3 ∨ k = 4 ∨ k = 5 ∨ k = 6 ∨ k = 7 ∨ k = 8 ∨ k = 9 ∨ k = 10 ∨ k = 11 by omega) with h | h | h | h | h | h | h | h | h | h | h | h <;> subst h <;> simp [nI_lit]
theorem sw11n {x : Int32} (h : x.toInt < 0 ∨ 11 < x.toInt) : x ≠ 0 ∧ x ≠ 1 ∧ x ≠ 2 ∧ x ≠ 3 ∧ x ≠ 4 ∧ x ≠ 5 ∧ x ≠ 6 ∧ x ≠ 7 ∧ x ≠ 8 ∧ x ≠ 9 ∧ x ≠ 10 ∧ x ≠ 11 := by
  refine ⟨?_, ?_, ?_, ?_, ?_, ?_, ?_, ?_, ?_, ?_, ?_, ?_⟩ <;> (rintro rfl; revert h; decide)
