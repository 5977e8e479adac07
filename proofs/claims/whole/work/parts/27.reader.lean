/-! the reader: a machine that takes letters -/
abbrev PS : Type := Bool × Nat × Nat × (Nat → Nat) × LN
def ps_b (p : PS) : Bool := p.1
def ps_p (p : PS) : Nat := p.2.1
def ps_k (p : PS) : Nat := p.2.2.1
def ps_f (p : PS) : Nat → Nat := p.2.2.2.1
def ps_l (p : PS) : LN := p.2.2.2.2
def ps_lim (p : PS) : Nat := if ps_p p = 72 ∧ ps_k p = 0 then 4 else if ps_p p = 83 ∧ ps_k p = 0 then ln_n (ps_l p) else if ps_p p = 83 ∧ ps_k p = 1 then 6 else 10
def ps_opens (l : LN) (x : Nat) : Prop := (x = 72 ∧ ln_n l < 5) ∨ (x = 83 ∧ 0 < ln_n l ∧ ln_s l < 8) ∨ (x = 82 ∧ ln_r l < 4)
def ps_close (p : PS) : PS :=
  if ps_p p = 72 ∧ ps_k p = 2 then (ps_b p, 0, ps_k p, ps_f p, ln_addH (ps_l p) (ps_f p 0) (ps_f p 1))
  else if ps_p p = 83 ∧ ps_k p = 3 then (ps_b p, 0, ps_k p, ps_f p, ln_addS (ps_l p) (ps_f p 0) (ps_f p 1) (ps_f p 2))
  else if ps_p p = 82 ∧ ps_k p = 1 then (ps_b p, 0, ps_k p, ps_f p, ln_addR (ps_l p) (ps_f p 0))
  else p
noncomputable def pstep (p : PS) (x : Nat) : Option PS :=
  if ps_b p = false then (if x = 69 then some (true, ps_p p, ps_k p, ps_f p, ps_l p) else none)
  else if ps_p p = 0 then (have := Classical.propDecidable (ps_opens (ps_l p) x); if ps_opens (ps_l p) x then some (true, x, 0, ps_f p, ps_l p) else none)
  else if 48 ≤ x ∧ x - 48 < ps_lim p ∧ ps_k p < 3 then some (ps_close (true, ps_p p, ps_k p + 1, va_up (ps_f p) (ps_k p) (x - 48), ps_l p)) else none
def ps_0 : PS := (false, 0, 0, fun _ => 0, ln_e)
noncomputable def pscan (t : Nat → Nat) : Nat → Nat → PS → Int32 × PS
  | 0, i, p => (if ps_b p = true ∧ ps_p p = 0 then -9 else nI i, p)
  | k + 1, i, p => match pstep p (t i) with
    | none => (nI i, p)
    | some q => pscan t k (i + 1) q
def PsOK (p : PS) : Prop := LnOK (ps_l p) ∧ (ps_p p = 0 ∨ (ps_p p = 72 ∧ ps_k p < 2 ∧ ln_n (ps_l p) < 5 ∧ (0 < ps_k p → ps_f p 0 < 4)) ∨ (ps_p p = 83 ∧ ps_k p < 3 ∧ ln_s (ps_l p) < 8 ∧ (0 < ps_k p → ps_f p 0 < ln_n (ps_l p)) ∧ (1 < ps_k p → ps_f p 1 < 6)) ∨ (ps_p p = 82 ∧ ps_k p < 1 ∧ ln_r (ps_l p) < 4))
def ReaderR (M : MM) (p : PS) : Prop := M 8 2 = bI (ps_b p) ∧ M 8 3 = nI (ps_p p) ∧ (ps_p p ≠ 0 → M 8 4 = nI (ps_k p)) ∧ (ps_p p ≠ 0 → ∀ j, j < ps_k p → M 9 j = nI (ps_f p j)) ∧ LaneR M 23 (ps_l p)
def OnlyRd (M M' : MM) : Prop := ∀ i, i ≠ 8 → i ≠ 9 → (i < 23 ∨ 29 < i) → M' i = M i
theorem OnlyRd.rf {M : MM} : OnlyRd M M := fun _ _ _ _ => rfl
theorem OnlyRd.tr {M M' M'' : MM} (h : OnlyRd M M') (h2 : OnlyRd M' M'') : OnlyRd M M'' := fun i a b c => (h2 i a b c).trans (h i a b c)
theorem OnlyRd.up {M M' : MM} {i : Nat} {r : Nat → Int32} (e : M' = va_up M i r) (h : i = 8 ∨ i = 9) : OnlyRd M M' := fun j a b c => by rw [e, va_up_ne _ _ (by omega)]
theorem OnlyRd.ln {M M' : MM} (h : OnlyB 23 29 M M') : OnlyRd M M' := fun i a b c => h i c
theorem ln_addH_ok {l : LN} {k w : Nat} (ok : LnOK l) (hn : ln_n l < 5) (hk : k < 4) (hw : w ≤ 9) : LnOK (ln_addH l k w) := by
  refine ⟨hn, ok.2.1, ok.2.2.1, fun j hj => ?_, fun j hj => ?_, ok.2.2.2.2.2⟩
  · show va_up (ln_wall l) (ln_n l) w j ≤ 9 ∧ va_up (ln_kind l) (ln_n l) k j ≤ 3
    have hj2 : j < ln_n l + 1 := hj
    unfold va_up
    split
    · omega
    · exact ok.2.2.2.1 j (by omega)
  · have h := ok.2.2.2.2.1 j hj
    exact ⟨Nat.lt_succ_of_lt h.1, h.2⟩
theorem ln_addS_ok {l : LN} {p t v : Nat} (ok : LnOK l) (hs : ln_s l < 8) (hp : p < ln_n l) (ht : t < 6) (hv : v ≤ 9) : LnOK (ln_addS l p t v) := by
  refine ⟨ok.1, hs, ok.2.2.1, ok.2.2.2.1, fun j hj => ?_, ok.2.2.2.2.2⟩
  show va_up (ln_place l) (ln_s l) p j < ln_n l ∧ va_up (ln_thing l) (ln_s l) t j < 6 ∧ va_up (ln_loud l) (ln_s l) v j ≤ 9
  have hj2 : j < ln_s l + 1 := hj
  unfold va_up
  split
  · omega
  · exact ok.2.2.2.2.1 j (by omega)
theorem ln_addR_ok {l : LN} {r : Nat} (ok : LnOK l) (hr : ln_r l < 4) (h9 : r ≤ 9) : LnOK (ln_addR l r) := by
  refine ⟨ok.1, ok.2.1, hr, ok.2.2.2.1, ok.2.2.2.2.1, fun j hj => ?_⟩
  show va_up (ln_rain l) (ln_r l) r j ≤ 9
  have hj2 : j < ln_r l + 1 := hj
  unfold va_up
  split
  · omega
  · exact ok.2.2.2.2.2 j (by omega)
theorem ps0_ok : PsOK ps_0 := ⟨⟨Nat.zero_le _, Nat.zero_le _, Nat.zero_le _, fun j hj => absurd hj (Nat.not_lt_zero j), fun j hj => absurd hj (Nat.not_lt_zero j), fun j hj => absurd hj (Nat.not_lt_zero j)⟩, Or.inl rfl⟩
theorem ps_cl_H {b : Bool} {pt k : Nat} {f : Nat → Nat} {l : LN} (h1 : pt = 72) (h2 : k = 2) : ps_close (b, pt, k, f, l) = (b, 0, k, f, ln_addH l (f 0) (f 1)) := by subst h1; subst h2; rfl
theorem ps_cl_S {b : Bool} {pt k : Nat} {f : Nat → Nat} {l : LN} (h1 : pt = 83) (h2 : k = 3) : ps_close (b, pt, k, f, l) = (b, 0, k, f, ln_addS l (f 0) (f 1) (f 2)) := by subst h1; subst h2; rfl
theorem ps_cl_R {b : Bool} {pt k : Nat} {f : Nat → Nat} {l : LN} (h1 : pt = 82) (h2 : k = 1) : ps_close (b, pt, k, f, l) = (b, 0, k, f, ln_addR l (f 0)) := by subst h1; subst h2; rfl
theorem ps_cl_N {b : Bool} {pt k : Nat} {f : Nat → Nat} {l : LN} (h1 : ¬ (pt = 72 ∧ k = 2)) (h2 : ¬ (pt = 83 ∧ k = 3)) (h3 : ¬ (pt = 82 ∧ k = 1)) : ps_close (b, pt, k, f, l) = (b, pt, k, f, l) := (if_neg h1).trans ((if_neg h2).trans (if_neg h3))
theorem pstep_ok {p q : PS} {x : Nat} (ok : PsOK p) (h : pstep p x = some q) : PsOK q := by
  unfold pstep at h
  obtain ⟨okl, okp⟩ := ok
  split at h
  · split at h
    · cases h; exact ⟨okl, okp⟩
    · cases h
  · split at h
    · next hp0 =>
      simp only [] at h
      split at h
      · next ho =>
        cases h
        refine ⟨okl, Or.inr ?_⟩
        rcases ho with ⟨h1, h2⟩ | ⟨h1, h2, h3⟩ | ⟨h1, h2⟩
        · left; exact ⟨h1, by show 0 < 2; decide, h2, fun z => absurd z (Nat.lt_irrefl 0)⟩
        · right; left; exact ⟨h1, by show 0 < 3; decide, h3, fun z => absurd z (Nat.lt_irrefl 0), fun z => absurd z (by show ¬ 1 < 0; decide)⟩
        · right; right; exact ⟨h1, by show 0 < 1; decide, h2⟩
      · cases h
    · next hb hp0 =>
      split at h
      · next hx =>
        cases h
        obtain ⟨x1, x2, x3⟩ := hx
        rcases okp with q | ⟨q1, q2, q3, q4⟩ | ⟨q1, q2, q3, q4, q5⟩ | ⟨q1, q2, q3⟩
        · exact absurd q hp0
        · rcases (show ps_k p = 0 ∨ ps_k p = 1 by omega) with k0 | k1
          · have hl : ps_lim p = 4 := by unfold ps_lim; rw [if_pos ⟨q1, k0⟩]
            rw [ps_cl_N (by omega) (by omega) (by omega)]
            refine ⟨okl, Or.inr (Or.inl ⟨q1, by show ps_k p + 1 < 2; omega, q3, fun _ => ?_⟩)⟩
            show va_up (ps_f p) (ps_k p) (x - 48) 0 < 4
            rw [k0, va_up_self]; omega
          · have hl : ps_lim p = 10 := by unfold ps_lim; rw [if_neg (by omega), if_neg (by omega), if_neg (by omega)]
            rw [ps_cl_H q1 (by omega)]
            refine ⟨ln_addH_ok okl q3 ?_ ?_, Or.inl rfl⟩
            · rw [k1, va_up_ne _ _ (by decide)]; exact q4 (by omega)
            · rw [k1, va_up_self]; omega
        · rcases (show ps_k p = 0 ∨ ps_k p = 1 ∨ ps_k p = 2 by omega) with k0 | k1 | k2
          · have hl : ps_lim p = ln_n (ps_l p) := by unfold ps_lim; rw [if_neg (by omega), if_pos ⟨q1, k0⟩]
            rw [ps_cl_N (by omega) (by omega) (by omega)]
            refine ⟨okl, Or.inr (Or.inr (Or.inl ⟨q1, by show ps_k p + 1 < 3; omega, q3, fun _ => ?_, fun z => ?_⟩))⟩
            · show va_up (ps_f p) (ps_k p) (x - 48) 0 < ln_n (ps_l p)
              rw [k0, va_up_self]; omega
            · exact absurd (show 1 < ps_k p + 1 from z) (by omega)
          · have hl : ps_lim p = 6 := by unfold ps_lim; rw [if_neg (by omega), if_neg (by omega), if_pos ⟨q1, k1⟩]
            rw [ps_cl_N (by omega) (by omega) (by omega)]
            refine ⟨okl, Or.inr (Or.inr (Or.inl ⟨q1, by show ps_k p + 1 < 3; omega, q3, fun _ => ?_, fun z => ?_⟩))⟩
            · show va_up (ps_f p) (ps_k p) (x - 48) 0 < ln_n (ps_l p)
              rw [k1, va_up_ne _ _ (by decide)]; exact q4 (by omega)
            · show va_up (ps_f p) (ps_k p) (x - 48) 1 < 6
              rw [k1, va_up_self]; omega
          · have hl : ps_lim p = 10 := by unfold ps_lim; rw [if_neg (by omega), if_neg (by omega), if_neg (by omega)]
            rw [ps_cl_S q1 (by omega)]
            refine ⟨ln_addS_ok okl q3 ?_ ?_ ?_, Or.inl rfl⟩
            · rw [k2, va_up_ne _ _ (by decide)]; exact q4 (by omega)
            · rw [k2, va_up_ne _ _ (by decide)]; exact q5 (by omega)
            · rw [k2, va_up_self]; omega
        · have k0 : ps_k p = 0 := by omega
          have hl : ps_lim p = 10 := by unfold ps_lim; rw [if_neg (by omega), if_neg (by omega), if_neg (by omega)]
          rw [ps_cl_R q1 (by omega)]
          refine ⟨ln_addR_ok okl q3 ?_, Or.inl rfl⟩
          rw [k0, va_up_self]; omega
      · cases h
