/-! ===== PURE: hours and acts on a scene ===== -/
theorem JW.mono {g : GT} {mi : MI} {d : Nat} {Q Q' : Option Value → MM → LL → Prop} {M : MM} {L : LL} {pc : Nat} {lv : List (Option Value)} {st : List Value} (h : ∀ v M L, Q v M L → Q' v M L) (k : JW g mi d Q M L pc lv st) : JW g mi d Q' M L pc lv st := by
  intro p e s m args below meth c H locs ls C hP hS hl T hT X
  obtain ⟨t, a, o, b1, b2, ⟨⟨r, M1, L1, e1, e2, e3⟩, e4⟩, e5⟩ := k p e s m args below meth c H locs ls C hP hS hl T hT X
  exact ⟨t, a, o, b1, b2, ⟨⟨r, M1, L1, e1, h _ _ _ e2, e3⟩, e4⟩, e5⟩
theorem ro_top {g : GT} {mi : MI} {d : Nat} {Q : Option Value → MM → LL → Prop} {M : MM} {L : LL} {pc : Nat} {lv : List (Option Value)} {st : List Value} {v w : Int32} (h : v = w) (k : JW g mi d Q M L pc lv (.int w :: st)) : JW g mi d Q M L pc lv (.int v :: st) := h ▸ k
theorem ro_top2 {g : GT} {mi : MI} {d : Nat} {Q : Option Value → MM → LL → Prop} {M : MM} {L : LL} {pc : Nat} {lv : List (Option Value)} {st : List Value} {v w : Int32} {u : Value} (h : v = w) (k : JW g mi d Q M L pc lv (u :: .int w :: st)) : JW g mi d Q M L pc lv (u :: .int v :: st) := h ▸ k
def earZ (k : Nat) : Int := if k = 1 then 2 else if k = 2 then -2 else 0
theorem ear_oI (k : Nat) : dq_ear k = oI (earZ k) := by
  unfold dq_ear earZ
  split
  · rfl
  · split <;> rfl
theorem earZ_b (k : Nat) : -2 ≤ earZ k ∧ earZ k ≤ 2 := by
  unfold earZ
  split
  · omega
  · split <;> omega
def away (h p : Nat) : Nat := if p ≤ h then h - p else p - h
/-- the saying of the hour -/
def sayK (l : LN) (c : SC) : Nat := sc_hr c % ln_s l
/-- he at house h hears the saying of the hour by rain r, if there is one and they are not strayed -/
def hearP (l : LN) (c : SC) (r h : Nat) : Bool :=
  (decide (ln_kind l (sc_who c h) = 3) && decide (h = ln_place l (sayK l c))) || decide ((ln_wall l (ln_place l (sayK l c)) : Int) + 2 * (away h (ln_place l (sayK l c)) : Int) + (r : Int) < (ln_loud l (sayK l c) : Int) + sc_vo c (ln_place l (sayK l c)) + earZ (ln_kind l (sc_who c h)))
def hearB (l : LN) (c : SC) (r h : Nat) : Bool := !decide (3 ≤ sc_dry c) && (!decide (ln_s l = 0) && hearP l c r h)
/-- told th at the houses of m, below n -/
def tellK (m th : Nat) (kn : Nat → Nat) (n : Nat) : Nat → Nat := fun h => if h < n ∧ m.testBit h = true then kn h ||| th else kn h
def kn1 (l : LN) (r : Nat) (c : SC) : Nat → Nat := fun h => if h < ln_n l ∧ hearB l c r h = true then sc_kn c h ||| 2 ^ ln_thing l (sayK l c) else sc_kn c h
def dryN (r d : Nat) : Nat := if r = 0 then (if 9 < d + 1 then 9 else d + 1) else 0
def kn2 (l : LN) (r : Nat) (c : SC) : Nat → Nat := fun h => if 3 ≤ dryN r (sc_dry c) ∧ h < ln_n l then kn1 l r c h ||| orB (fun _ => true) (kn1 l r c) (ln_n l) else kn1 l r c h
/-- an hour by rain r: the scene then; how many know more -/
def hourC (l : LN) (r : Nat) (c : SC) : SC := (sc_who c, kn2 l r c, sc_vo c, dryN r (sc_dry c), sc_hr c + 1)
def hourN (l : LN) (r : Nat) (c : SC) : Nat := ctB (fun h => !decide (kn2 l r c h = sc_kn c h)) (ln_n l)
def canL (n : Nat) (c : SC) (h : Nat) : Bool := decide (h < n) && decide (-3 < sc_vo c h)
def canR (n : Nat) (c : SC) (h : Nat) : Bool := decide (h < n) && decide (sc_vo c h < 3)
def canC (n i j : Nat) : Bool := decide (i < n) && (decide (j < n) && !decide (i = j))
def canP (n h : Nat) : Bool := decide (h + 1 < n)
def lowC (c : SC) (h : Nat) : SC := (sc_who c, sc_kn c, va_up (sc_vo c) h (sc_vo c h - 1), sc_dry c, sc_hr c)
def raiC (c : SC) (h : Nat) : SC := (sc_who c, sc_kn c, va_up (sc_vo c) h (sc_vo c h + 1), sc_dry c, sc_hr c)
def chgC (c : SC) (i j : Nat) : SC := (va_up (va_up (sc_who c) i (sc_who c j)) j (sc_who c i), va_up (va_up (sc_kn c) i (sc_kn c j)) j (sc_kn c i), sc_vo c, sc_dry c, sc_hr c)
def plaC (c : SC) (h : Nat) : SC := (sc_who c, va_up (sc_kn c) (h + 1) (sc_kn c (h + 1) ||| sc_kn c h), sc_vo c, sc_dry c, sc_hr c)
theorem mkB_or (p q : Nat → Bool) : ∀ n, mkB p n ||| mkB q n = mkB (fun h => p h || q h) n := by
  intro n
  apply Nat.eq_of_testBit_eq
  intro j
  rw [Nat.testBit_or, mkB_bit, mkB_bit, mkB_bit]
  cases decide (j < n) <;> rfl
theorem mkB_0 (n : Nat) : mkB (fun _ => false) n = 0 := by
  apply Nat.eq_of_testBit_eq
  intro j
  rw [mkB_bit]
  simp
theorem all_bit : ∀ n : Nat, n ≤ 5 → ∀ j : Nat, j < n → (2 ^ n - 1).testBit j = true := by
  intro n hn j hj
  rw [Nat.testBit_two_pow_sub_one]
  simp [hj]
theorem or_grow {a b c : Nat} : (a ||| b ||| c = a) ↔ (a ||| b = a ∧ a ||| b ||| c = a ||| b) := by
  constructor
  · intro h
    have h1 : a ||| b = a := by
      apply Nat.eq_of_testBit_eq
      intro j
      have h2 := congrArg (fun z => z.testBit j) h
      simp only [Nat.testBit_or] at h2 ⊢
      cases ha : a.testBit j <;> cases hb : b.testBit j <;> simp_all
    exact ⟨h1, by rw [h, h1]⟩
  · rintro ⟨h1, h2⟩
    rw [h2, h1]
theorem dryN_le (r d : Nat) : dryN r d ≤ 9 := by
  unfold dryN
  split
  · split <;> omega
  · omega
theorem kn1_lt {l : LN} {r n b : Nat} {c : SC} (ok : LnOK l) (oc : ScOK n b c) : ∀ j, kn1 l r c j < 64 := by
  intro j
  unfold kn1
  split
  · next h =>
    have h1 : ln_s l ≠ 0 := by
      have := h.2
      simp only [hearB, Bool.and_eq_true, Bool.not_eq_true', decide_eq_false_iff_not] at this
      exact this.2.1
    have h2 := (ok.2.2.2.2.1 (sayK l c) (Nat.mod_lt _ (by omega))).2.1
    refine Nat.or_lt_two_pow (n := 6) (oc.2.2.1 j) ?_
    exact Nat.pow_lt_pow_right (by decide) h2
  · exact oc.2.2.1 j
theorem kn2_lt {l : LN} {r n b : Nat} {c : SC} (ok : LnOK l) (oc : ScOK n b c) : ∀ j, kn2 l r c j < 64 := by
  intro j
  unfold kn2
  split
  · exact Nat.or_lt_two_pow (n := 6) (kn1_lt ok oc j) (orB_lt (w := 6) (fun k _ => kn1_lt ok oc k))
  · exact kn1_lt ok oc j
theorem hourC_ok {l : LN} {r n b : Nat} {c : SC} (ok : LnOK l) (oc : ScOK n b c) : ScOK n (b + 1) (hourC l r c) :=
  ⟨oc.1, oc.2.1, kn2_lt ok oc, oc.2.2.2.1, dryN_le _ _, Nat.succ_le_succ oc.2.2.2.2.2⟩
theorem lowC_ok {n b h : Nat} {c : SC} (oc : ScOK n b c) (hc : canL n c h = true) : ScOK n b (lowC c h) := by
  simp only [canL, Bool.and_eq_true, decide_eq_true_eq] at hc
  refine ⟨oc.1, oc.2.1, oc.2.2.1, fun j => ?_, oc.2.2.2.2⟩
  have h1 := oc.2.2.2.1 h
  show -3 ≤ va_up (sc_vo c) h (sc_vo c h - 1) j ∧ va_up (sc_vo c) h (sc_vo c h - 1) j ≤ 3
  unfold va_up
  split
  · omega
  · exact oc.2.2.2.1 j
theorem raiC_ok {n b h : Nat} {c : SC} (oc : ScOK n b c) (hc : canR n c h = true) : ScOK n b (raiC c h) := by
  simp only [canR, Bool.and_eq_true, decide_eq_true_eq] at hc
  refine ⟨oc.1, oc.2.1, oc.2.2.1, fun j => ?_, oc.2.2.2.2⟩
  have h1 := oc.2.2.2.1 h
  show -3 ≤ va_up (sc_vo c) h (sc_vo c h + 1) j ∧ va_up (sc_vo c) h (sc_vo c h + 1) j ≤ 3
  unfold va_up
  split
  · omega
  · exact oc.2.2.2.1 j
theorem swp_at (f : Nat → Nat) (i j k : Nat) : va_up (va_up f i (f j)) j (f i) k = f (if k = j then i else if k = i then j else k) := by
  unfold va_up
  by_cases h1 : k = j
  · simp [h1]
  · by_cases h2 : k = i
    · subst h2; simp [h1]
    · simp [h1, h2]
theorem chgC_ok {n b i j : Nat} {c : SC} (oc : ScOK n b c) (hc : canC n i j = true) : ScOK n b (chgC c i j) := by
  simp only [canC, Bool.and_eq_true, decide_eq_true_eq, Bool.not_eq_true', decide_eq_false_iff_not] at hc
  obtain ⟨hi, hj, hij⟩ := hc
  refine ⟨fun k hk => ?_, fun p q hp hq h => ?_, fun k => ?_, oc.2.2.2⟩
  · show va_up (va_up (sc_who c) i (sc_who c j)) j (sc_who c i) k < n
    rw [swp_at]
    exact oc.1 _ (by split; exact hi; split; exact hj; exact hk)
  · have h' : va_up (va_up (sc_who c) i (sc_who c j)) j (sc_who c i) p = va_up (va_up (sc_who c) i (sc_who c j)) j (sc_who c i) q := h
    rw [swp_at, swp_at] at h'
    have h2 := oc.2.1 _ _ (by split; exact hi; split; exact hj; exact hp) (by split; exact hi; split; exact hj; exact hq) h'
    split at h2 <;> split at h2 <;> (try split at h2) <;> (try split at h2) <;> omega
  · show va_up (va_up (sc_kn c) i (sc_kn c j)) j (sc_kn c i) k < 64
    rw [swp_at]
    exact oc.2.2.1 _
theorem plaC_ok {n b h : Nat} {c : SC} (oc : ScOK n b c) : ScOK n b (plaC c h) := by
  refine ⟨oc.1, oc.2.1, fun k => ?_, oc.2.2.2⟩
  show va_up (sc_kn c) (h + 1) (sc_kn c (h + 1) ||| sc_kn c h) k < 64
  unfold va_up
  split
  · exact Nat.or_lt_two_pow (n := 6) (oc.2.2.1 _) (oc.2.2.1 _)
  · exact oc.2.2.1 _
theorem ScOK.mono {n b b' : Nat} {c : SC} (oc : ScOK n b c) (h : b ≤ b') : ScOK n b' c := ⟨oc.1, oc.2.1, oc.2.2.1, oc.2.2.2.1, oc.2.2.2.2.1, Nat.le_trans oc.2.2.2.2.2 h⟩
theorem rainAt_le {l : LN} (ok : LnOK l) (h : Nat) : ln_rainAt l h ≤ 9 := by
  unfold ln_rainAt
  split
  · omega
  · exact ok.2.2.2.2.2 _ (Nat.mod_lt _ (by omega))
