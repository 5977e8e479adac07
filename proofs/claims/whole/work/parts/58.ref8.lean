/-! keeps: whether one knows a thing is an OR over houses, each by how far that house's voice is lowered -/
def Dc (n : Nat) (f : (Nat → Nat) → Bool) : Prop := ∃ (k0 : Bool) (q : Nat → Nat → Bool), (∀ p m m', m ≤ m' → q p m' = true → q p m = true) ∧ ∀ w, f w = true ↔ (k0 = true ∨ ∃ p, p < n ∧ q p (w p) = true)
theorem Dc.cst (n : Nat) (b : Bool) : Dc n (fun _ => b) := ⟨b, fun _ _ => false, fun _ _ _ _ h => absurd h Bool.false_ne_true, fun _ => ⟨Or.inl, fun h => h.elim id (fun ⟨_, _, h⟩ => absurd h Bool.false_ne_true)⟩⟩
theorem Dc.cong {n : Nat} {f g : (Nat → Nat) → Bool} (h : ∀ w, g w = f w) (hf : Dc n f) : Dc n g := by
  obtain ⟨k0, q, h1, h2⟩ := hf
  exact ⟨k0, q, h1, fun w => by rw [h w]; exact h2 w⟩
theorem Dc.or {n : Nat} {f g : (Nat → Nat) → Bool} (hf : Dc n f) (hg : Dc n g) : Dc n (fun w => f w || g w) := by
  obtain ⟨k0, q, h1, h2⟩ := hf
  obtain ⟨k0', q', h1', h2'⟩ := hg
  refine ⟨k0 || k0', fun p m => q p m || q' p m, fun p m m' hm h => ?_, fun w => ?_⟩
  · rw [Bool.or_eq_true] at h ⊢
    exact h.imp (h1 p m m' hm) (h1' p m m' hm)
  · rw [Bool.or_eq_true, h2, h2', Bool.or_eq_true]
    constructor
    · rintro ((h | ⟨p, a, b⟩) | (h | ⟨p, a, b⟩))
      · exact Or.inl (Or.inl h)
      · exact Or.inr ⟨p, a, by show (q p (w p) || q' p (w p)) = true; rw [b]; rfl⟩
      · exact Or.inl (Or.inr h)
      · exact Or.inr ⟨p, a, by show (q p (w p) || q' p (w p)) = true; rw [b, Bool.or_true]⟩
    · rintro ((h | h) | ⟨p, a, b⟩)
      · exact Or.inl (Or.inl h)
      · exact Or.inr (Or.inl h)
      · rw [Bool.or_eq_true] at b
        exact b.elim (fun b => Or.inl (Or.inr ⟨p, a, b⟩)) (fun b => Or.inr (Or.inr ⟨p, a, b⟩))
theorem Dc.andc {n : Nat} {f : (Nat → Nat) → Bool} (b : Bool) (hf : Dc n f) : Dc n (fun w => b && f w) := by
  cases b
  · exact Dc.cong (fun w => by simp) (Dc.cst n false)
  · exact Dc.cong (fun w => by simp) hf
theorem Dc.one {n p0 : Nat} {q : Nat → Bool} (hp : p0 < n) (hq : ∀ m m', m ≤ m' → q m' = true → q m = true) : Dc n (fun w => q (w p0)) := by
  refine ⟨false, fun p m => decide (p = p0) && q m, fun p m m' hm h => ?_, fun w => ?_⟩
  · rw [Bool.and_eq_true] at h ⊢
    exact ⟨h.1, hq m m' hm h.2⟩
  · constructor
    · intro h
      exact Or.inr ⟨p0, hp, by show (decide (p0 = p0) && q (w p0)) = true; rw [show q (w p0) = true from h, decide_eq_true rfl]; rfl⟩
    · rintro (h | ⟨p, a, b⟩)
      · cases h
      · rw [Bool.and_eq_true, decide_eq_true_eq] at b
        rw [← b.1]; exact b.2
theorem Dc_orB {n t : Nat} {f : (Nat → Nat) → Nat → Nat} : ∀ {m : Nat}, (∀ k, k < m → Dc n (fun w => (f w k).testBit t)) → Dc n (fun w => (orB (fun _ => true) (f w) m).testBit t)
  | 0, _ => Dc.cong (fun w => by simp [orB]) (Dc.cst n false)
  | m + 1, h => Dc.cong (fun w => by show (orB (fun _ => true) (f w) (m + 1)).testBit t = _; rw [orB, Nat.testBit_or, if_pos rfl]) ((Dc_orB (m := m) (fun k hk => h k (by omega))).or (h m (by omega)))
theorem kn1_bit {l : LN} {r : Nat} {c : SC} {h t : Nat} : (kn1 l r c h).testBit t = ((sc_kn c h).testBit t || ((decide (h < ln_n l) && decide (ln_thing l (sayK l c) = t)) && hearB l c r h)) := by
  unfold kn1
  by_cases h1 : h < ln_n l
  · by_cases h2 : hearB l c r h = true
    · rw [if_pos ⟨h1, h2⟩, Nat.testBit_or, Nat.testBit_two_pow, h2, decide_eq_true h1, Bool.true_and, Bool.and_true]
    · rw [if_neg (fun z => h2 z.2), Bool.eq_false_iff.mpr h2, Bool.and_false, Bool.or_false]
  · rw [if_neg (fun z => h1 z.1), decide_eq_false h1, Bool.false_and, Bool.false_and, Bool.or_false]
theorem kn2_bit {l : LN} {r : Nat} {c : SC} {h t : Nat} : (kn2 l r c h).testBit t = ((kn1 l r c h).testBit t || (decide (3 ≤ dryN r (sc_dry c) ∧ h < ln_n l) && (orB (fun _ => true) (kn1 l r c) (ln_n l)).testBit t)) := by
  unfold kn2
  by_cases h1 : 3 ≤ dryN r (sc_dry c) ∧ h < ln_n l
  · rw [if_pos h1, Nat.testBit_or, decide_eq_true h1, Bool.true_and]
  · rw [if_neg h1, decide_eq_false h1, Bool.false_and, Bool.or_false]
theorem hrs_hr (l : LN) (c : SC) : ∀ i, sc_hr (hrsC l i c) = sc_hr c + i
  | 0 => rfl
  | i + 1 => by
    show sc_hr (hrsC l i c) + 1 = _
    rw [hrs_hr l c i, Nat.add_assoc]
theorem hrs_who (l : LN) (c : SC) : ∀ i, sc_who (hrsC l i c) = sc_who c ∧ sc_vo (hrsC l i c) = sc_vo c
  | 0 => ⟨rfl, rfl⟩
  | i + 1 => hrs_who l c i
theorem hrs_dry (l : LN) (c c' : SC) (hd : sc_dry c = sc_dry c') (hh : sc_hr c = sc_hr c') : ∀ i, sc_dry (hrsC l i c) = sc_dry (hrsC l i c')
  | 0 => hd
  | i + 1 => by
    show dryN (ln_rainAt l (sc_hr (hrsC l i c))) (sc_dry (hrsC l i c)) = dryN (ln_rainAt l (sc_hr (hrsC l i c'))) (sc_dry (hrsC l i c'))
    rw [hrs_dry l c c' hd hh i, hrs_hr, hrs_hr, hh]
theorem kn_Dc {l : LN} {c : SC} (ok : LnOK l) : ∀ i h t, Dc (ln_n l) (fun w => (sc_kn (hrsC l i (lowW (ln_n l) c w)) h).testBit t)
  | 0, h, t => Dc.cst (ln_n l) ((sc_kn c h).testBit t)
  | i + 1, h, t => by
    have hw : ∀ w, sc_who (hrsC l i (lowW (ln_n l) c w)) = sc_who c := fun w => (hrs_who l _ i).1
    have hv : ∀ w, sc_vo (hrsC l i (lowW (ln_n l) c w)) = sc_vo (lowW (ln_n l) c w) := fun w => (hrs_who l _ i).2
    have hd : ∀ w, sc_dry (hrsC l i (lowW (ln_n l) c w)) = sc_dry (hrsC l i c) := fun w => hrs_dry l (lowW (ln_n l) c w) c rfl rfl i
    have hh : ∀ w, sc_hr (hrsC l i (lowW (ln_n l) c w)) = sc_hr c + i := fun w => hrs_hr l _ i
    have hsay : ∀ w, sayK l (hrsC l i (lowW (ln_n l) c w)) = (sc_hr c + i) % ln_s l := fun w => by unfold sayK; rw [hh w]
    have hear : ∀ h, Dc (ln_n l) (fun w => hearB l (hrsC l i (lowW (ln_n l) c w)) (ln_rainAt l (sc_hr c + i)) h) := by
      intro h
      by_cases h0 : ln_s l = 0
      · exact Dc.cong (fun w => by unfold hearB; rw [decide_eq_true h0]; simp) (Dc.cst _ false)
      · have hp := (ok.2.2.2.2.1 ((sc_hr c + i) % ln_s l) (Nat.mod_lt _ (by omega))).1
        refine Dc.cong (f := fun w => (!decide (3 ≤ sc_dry (hrsC l i c)) && !decide (ln_s l = 0)) && ((decide (ln_kind l (sc_who c h) = 3) && decide (h = ln_place l ((sc_hr c + i) % ln_s l))) || decide ((ln_wall l (ln_place l ((sc_hr c + i) % ln_s l)) : Int) + 2 * (away h (ln_place l ((sc_hr c + i) % ln_s l)) : Int) + (ln_rainAt l (sc_hr c + i) : Int) < (ln_loud l ((sc_hr c + i) % ln_s l) : Int) + (sc_vo c (ln_place l ((sc_hr c + i) % ln_s l)) - (w (ln_place l ((sc_hr c + i) % ln_s l)) : Nat)) + earZ (ln_kind l (sc_who c h))))) (fun w => ?_) (Dc.andc _ ((Dc.cst _ _).or (Dc.one (q := fun m => decide ((ln_wall l (ln_place l ((sc_hr c + i) % ln_s l)) : Int) + 2 * (away h (ln_place l ((sc_hr c + i) % ln_s l)) : Int) + (ln_rainAt l (sc_hr c + i) : Int) < (ln_loud l ((sc_hr c + i) % ln_s l) : Int) + (sc_vo c (ln_place l ((sc_hr c + i) % ln_s l)) - (m : Nat)) + earZ (ln_kind l (sc_who c h)))) hp ?_)))
        · unfold hearB hearP
          rw [hsay w, hw w, hv w, hd w, Bool.and_assoc, show sc_vo (lowW (ln_n l) c w) (ln_place l ((sc_hr c + i) % ln_s l)) = sc_vo c (ln_place l ((sc_hr c + i) % ln_s l)) - (w (ln_place l ((sc_hr c + i) % ln_s l)) : Nat) from if_pos hp]
        · intro m m' hm h
          rw [decide_eq_true_eq] at h ⊢
          omega
    have k1 : ∀ h, Dc (ln_n l) (fun w => (kn1 l (ln_rainAt l (sc_hr c + i)) (hrsC l i (lowW (ln_n l) c w)) h).testBit t) := by
      intro h
      refine Dc.cong (fun w => ?_) ((kn_Dc (c := c) ok i h t).or (Dc.andc (decide (h < ln_n l) && decide (ln_thing l ((sc_hr c + i) % ln_s l) = t)) (hear h)))
      rw [kn1_bit, hsay w]
    refine Dc.cong (fun w => ?_) ((k1 h).or (Dc.andc (decide (3 ≤ dryN (ln_rainAt l (sc_hr c + i)) (sc_dry (hrsC l i c)) ∧ h < ln_n l)) (Dc_orB (m := ln_n l) (f := fun w => kn1 l (ln_rainAt l (sc_hr c + i)) (hrsC l i (lowW (ln_n l) c w))) (fun k _ => k1 k))))
    show (kn2 l (ln_rainAt l (sc_hr (hrsC l i (lowW (ln_n l) c w)))) (hrsC l i (lowW (ln_n l) c w)) h).testBit t = _
    rw [hh w, kn2_bit, hd w]
theorem kep_dec {l : LN} {c : SC} (ok : LnOK l) (h t n : Nat) : ∃ (k0 : Bool) (q : Nat → Nat → Bool), (∀ p m m', m ≤ m' → q p m' = true → q p m = true) ∧ ∀ w, kepB l c h t n w = true ↔ (k0 = false ∧ ∀ p, p < ln_n l → q p (w p) = false) := by
  obtain ⟨k0, q, h1, h2⟩ := kn_Dc (c := c) ok n h t
  refine ⟨k0, q, h1, fun w => ?_⟩
  have h3 := h2 w
  unfold kepB
  rw [Bool.not_eq_true', Bool.eq_false_iff, Ne, h3]
  constructor
  · intro z
    exact ⟨Bool.eq_false_iff.mpr (fun y => z (Or.inl y)), fun p hp => Bool.eq_false_iff.mpr (fun y => z (Or.inr ⟨p, hp, y⟩))⟩
  · rintro ⟨a, b⟩ (y | ⟨p, hp, y⟩)
    · rw [a] at y; cases y
    · rw [b p hp] at y; cases y
theorem lstM_le (p : Nat → Bool) : ∀ f m0 m, m0 ≤ m → p m = true → lstM p f m0 ≤ m
  | 0, m0, m, h, _ => h
  | f + 1, m0, m, h, hp => by
    rw [lstM]
    split
    · exact h
    · next z =>
      by_cases e : m0 = m
      · subst e; exact absurd hp z
      · exact lstM_le p f (m0 + 1) m (by omega) hp
theorem seqW_at (K : (Nat → Nat) → Bool) (mx : Nat → Nat) (p : Nat) : ∀ k, seqW K mx (p + 1 + k) p = seqW K mx (p + 1) p
  | 0 => rfl
  | k + 1 => by
    show va_up (seqW K mx (p + 1 + k)) (p + 1 + k) _ p = _
    rw [va_up_ne _ _ (by omega)]
    exact seqW_at K mx p k
def Gd (l : LN) (c : SC) (h t n : Nat) (w : Nat → Nat) : Prop := (∀ e, e < ln_n l → w e ≤ mostW c e) ∧ kepB l c h t n w = true
theorem kp_min {l : LN} {c : SC} (ok : LnOK l) {h t n : Nat} {w : Nat → Nat} (hK : kepB l c h t n (mostW c) = true) (hg : Gd l c h t n w) : ∀ p, p < ln_n l → kpW l c h t n p ≤ w p := by
  obtain ⟨k0, q, h1, h2⟩ := kep_dec (c := c) ok h t n
  intro p hp
  have e : kpW l c h t n p = seqW (kepB l c h t n) (mostW c) (p + 1) p := by
    unfold kpW
    have := seqW_at (kepB l c h t n) (mostW c) p (ln_n l - (p + 1))
    rwa [show p + 1 + (ln_n l - (p + 1)) = ln_n l by omega] at this
  rw [e]
  show va_up _ p _ p ≤ _
  rw [va_up_self]
  refine lstM_le _ _ _ _ (Nat.zero_le _) ?_
  have hs := (h2 _).mp (seqW_ok hK p).1
  refine (h2 _).mpr ⟨hs.1, fun j hj => ?_⟩
  by_cases e2 : j = p
  · subst e2; rw [va_up_self]; exact ((h2 w).mp hg.2).2 j hj
  · rw [va_up_ne _ _ e2]; exact hs.2 j hj
theorem kp_gd {l : LN} {c : SC} {h t n : Nat} (hK : kepB l c h t n (mostW c) = true) : Gd l c h t n (kpW l c h t n) := ⟨fun e _ => (seqW_ok hK (ln_n l)).2 e, (seqW_ok hK (ln_n l)).1⟩
theorem gd_most {l : LN} {c : SC} (ok : LnOK l) {h t n : Nat} {w : Nat → Nat} (hg : Gd l c h t n w) : kepB l c h t n (mostW c) = true := by
  obtain ⟨k0, q, h1, h2⟩ := kep_dec (c := c) ok h t n
  have hs := (h2 w).mp hg.2
  refine (h2 _).mpr ⟨hs.1, fun p hp => Bool.eq_false_iff.mpr (fun y => ?_)⟩
  have := h1 p (w p) (mostW c p) (hg.1 p hp) y
  rw [hs.2 p hp] at this
  cases this
theorem gd_cong {l : LN} {c : SC} (ok : LnOK l) {h t n : Nat} {w w' : Nat → Nat} (e : ∀ p, p < ln_n l → w' p = w p) (hg : Gd l c h t n w) : Gd l c h t n w' := by
  obtain ⟨k0, q, h1, h2⟩ := kep_dec (c := c) ok h t n
  have hs := (h2 w).mp hg.2
  exact ⟨fun p hp => by rw [e p hp]; exact hg.1 p hp, (h2 _).mpr ⟨hs.1, fun p hp => by rw [e p hp]; exact hs.2 p hp⟩⟩
/-! ways -/
def dgt (n way e : Nat) : Nat := way / 4 ^ (n - 1 - e) % 4
def wayF (w : Nat → Nat) : Nat → Nat
  | 0 => 0
  | i + 1 => 4 * wayF w i + w i
theorem dgt_l (n way : Nat) : dgt (n + 1) way n = way % 4 := by
  unfold dgt
  rw [show n + 1 - 1 - n = 0 by omega, Nat.pow_zero, Nat.div_one]
theorem dgt_s {n way e : Nat} (h : e < n) : dgt (n + 1) way e = dgt n (way / 4) e := by
  unfold dgt
  rw [show n + 1 - 1 - e = n - 1 - e + 1 by omega, Nat.pow_succ, Nat.mul_comm, ← Nat.div_div_eq_div_mul]
theorem wayF_cong {w w' : Nat → Nat} : ∀ {n : Nat}, (∀ e, e < n → w e = w' e) → wayF w n = wayF w' n
  | 0, _ => rfl
  | n + 1, h => by rw [wayF, wayF, wayF_cong (fun e he => h e (by omega)), h n (by omega)]
theorem figF_cong {w w' : Nat → Nat} : ∀ {n : Nat}, (∀ e, e < n → w e = w' e) → figF w n = figF w' n
  | 0, _ => rfl
  | n + 1, h => by rw [figF, figF, figF_cong (fun e he => h e (by omega)), h n (by omega)]
theorem way_dgt : ∀ n way, way < 4 ^ n → wayF (dgt n way) n = way
  | 0, way, h => by simp at h; subst h; rfl
  | n + 1, way, h => by
    rw [wayF, dgt_l, wayF_cong (fun e he => dgt_s he), way_dgt n (way / 4) (by rw [Nat.pow_succ] at h; omega)]
    omega
theorem dgt_way : ∀ n (w : Nat → Nat), (∀ e, e < n → w e < 4) → wayF w n < 4 ^ n ∧ ∀ e, e < n → dgt n (wayF w n) e = w e
  | 0, w, _ => ⟨Nat.one_pos, fun e he => absurd he (Nat.not_lt_zero e)⟩
  | n + 1, w, h => by
    obtain ⟨h1, h2⟩ := dgt_way n w (fun e he => h e (by omega))
    have h3 := h n (by omega)
    refine ⟨by rw [wayF, Nat.pow_succ]; omega, fun e he => ?_⟩
    by_cases en : e = n
    · subst en; rw [dgt_l, wayF]; omega
    · rw [dgt_s (by omega), wayF, show (4 * wayF w n + w n) / 4 = wayF w n by omega]
      exact h2 e (by omega)
theorem sm_le {w d : Nat → Nat} : ∀ {n : Nat}, (∀ e, e < n → w e ≤ d e) → smB w n ≤ smB d n ∧ (smB w n = smB d n → ∀ e, e < n → w e = d e)
  | 0, _ => ⟨Nat.le_refl _, fun _ e he => absurd he (Nat.not_lt_zero e)⟩
  | n + 1, h => by
    obtain ⟨h1, h2⟩ := sm_le (w := w) (d := d) (n := n) (fun e he => h e (by omega))
    have h3 := h n (by omega)
    refine ⟨by rw [smB, smB]; omega, fun z e he => ?_⟩
    rw [smB, smB] at z
    by_cases en : e = n
    · subst en; omega
    · exact h2 (by omega) e (by omega)
theorem smB_sh (f : Nat → Nat) : ∀ n, smB f (n + 1) = f 0 + smB (fun k => f (k + 1)) n
  | 0 => by simp [smB]
  | n + 1 => by rw [smB, smB_sh f n, smB, Nat.add_assoc]
theorem fig_way : ∀ n way, smB (fun j => 10 ^ j * (way / 4 ^ j % 4)) n = figF (dgt n way) n
  | 0, _ => rfl
  | n + 1, way => by
    rw [figF, dgt_l, figF_cong (fun e he => dgt_s he), ← fig_way n (way / 4), smB_sh, ← smB_mulL, Nat.add_comm]
    congr 1
    · refine smB_cong (fun k _ => ?_)
      rw [Nat.pow_succ, Nat.pow_succ, Nat.mul_comm (4 ^ k) 4, ← Nat.div_div_eq_div_mul, Nat.mul_comm (10 ^ k) 10, Nat.mul_assoc]
    · simp
/-- what stands behind i ways -/
def KI (l : LN) (c : SC) (h t n i : Nat) (few best : Int32) : Prop :=
  (kepB l c h t n (mostW c) = false → few = -9 ∧ best = -9) ∧ (kepB l c h t n (mostW c) = true → (wayF (kpW l c h t n) (ln_n l) < i → few = nI (smB (kpW l c h t n) (ln_n l)) ∧ best = nI (figF (kpW l c h t n) (ln_n l))) ∧ (¬ wayF (kpW l c h t n) (ln_n l) < i → few = -9 ∨ ∃ s, few = nI s ∧ smB (kpW l c h t n) (ln_n l) < s ∧ s < 100))
theorem kp_4 {l : LN} {c : SC} {b h t n : Nat} (oc : ScOK (ln_n l) b c) (hK : kepB l c h t n (mostW c) = true) : ∀ e, e < ln_n l → kpW l c h t n e < 4 := fun e _ => by
  have h1 := (seqW_ok hK (ln_n l)).2 e
  have h2 := (most_le c e (oc.2.2.2.1 e).1).1
  show seqW _ _ _ _ < 4
  omega
theorem kp_way {l : LN} {c : SC} {b h t n i : Nat} (oc : ScOK (ln_n l) b c) (hK : kepB l c h t n (mostW c) = true) (hi : i < 4 ^ ln_n l) : i = wayF (kpW l c h t n) (ln_n l) ↔ ∀ e, e < ln_n l → kpW l c h t n e = dgt (ln_n l) i e := by
  constructor
  · rintro rfl e he
    exact ((dgt_way _ _ (kp_4 oc hK)).2 e he).symm
  · intro h1
    rw [wayF_cong h1, way_dgt _ _ hi]
theorem KI_no {l : LN} {c : SC} {b h t n i : Nat} {few best : Int32} (ok : LnOK l) (oc : ScOK (ln_n l) b c) (hi : i < 4 ^ ln_n l) (hg : ¬ Gd l c h t n (dgt (ln_n l) i)) (k : KI l c h t n i few best) : KI l c h t n (i + 1) few best := by
  refine ⟨k.1, fun hK => ?_⟩
  have hne : i ≠ wayF (kpW l c h t n) (ln_n l) := fun z => hg (gd_cong ok (fun p hp => (((kp_way oc hK hi).mp z) p hp).symm) (kp_gd hK))
  exact ⟨fun z => (k.2 hK).1 (by omega), fun z => (k.2 hK).2 (by omega)⟩
theorem sm_d {n i : Nat} (hn : n ≤ 5) : smB (dgt n i) n < 100 := by
  have := smB_le (f := dgt n i) (w := 3) (fun j => by have : dgt n i j < 4 := Nat.mod_lt _ (by decide); omega) n
  omega
theorem KI_worse {l : LN} {c : SC} {b h t n i : Nat} {few best : Int32} (ok : LnOK l) (oc : ScOK (ln_n l) b c) (hi : i < 4 ^ ln_n l) (hg : Gd l c h t n (dgt (ln_n l) i)) (h9 : ¬ few = -9) (hf : few ≤ nI (smB (dgt (ln_n l) i) (ln_n l))) (k : KI l c h t n i few best) : KI l c h t n (i + 1) few best := by
  have hK := gd_most ok hg
  refine ⟨k.1, fun _ => ?_⟩
  have hsd := sm_d (i := i) ok.1
  by_cases e : i = wayF (kpW l c h t n) (ln_n l)
  · rcases (k.2 hK).2 (by omega) with z | ⟨s, z1, z2, z3⟩
    · exact absurd z h9
    · rw [z1, nI_leI (by omega) (by omega), ← smB_cong ((kp_way oc hK hi).mp e)] at hf
      omega
  · exact ⟨fun z => (k.2 hK).1 (by omega), fun z => (k.2 hK).2 (by omega)⟩
theorem KI_better {l : LN} {c : SC} {b h t n i : Nat} {few best : Int32} (ok : LnOK l) (oc : ScOK (ln_n l) b c) (hi : i < 4 ^ ln_n l) (hg : Gd l c h t n (dgt (ln_n l) i)) (hf : few = -9 ∨ ¬ few ≤ nI (smB (dgt (ln_n l) i) (ln_n l))) (k : KI l c h t n i few best) : KI l c h t n (i + 1) (nI (smB (dgt (ln_n l) i) (ln_n l))) (nI (figF (dgt (ln_n l) i) (ln_n l))) := by
  have hK := gd_most ok hg
  have hsd := sm_d (i := i) ok.1
  have hmin := sm_le (kp_min ok hK hg)
  refine ⟨fun z => (by rw [hK] at z; cases z), fun _ => ?_⟩
  by_cases e : i = wayF (kpW l c h t n) (ln_n l)
  · have hd := (kp_way oc hK hi).mp e
    exact ⟨fun _ => ⟨by rw [smB_cong hd], by rw [figF_cong hd]⟩, fun z => absurd (by omega) z⟩
  · have hlt : smB (kpW l c h t n) (ln_n l) < smB (dgt (ln_n l) i) (ln_n l) := by
      rcases Nat.lt_or_ge (smB (kpW l c h t n) (ln_n l)) (smB (dgt (ln_n l) i) (ln_n l)) with q | q
      · exact q
      · exact absurd ((kp_way oc hK hi).mpr (hmin.2 (by omega))) e
    refine ⟨fun z => ?_, fun _ => Or.inr ⟨_, rfl, hlt, hsd⟩⟩
    obtain ⟨z1, z2⟩ := (k.2 hK).1 (by omega)
    rcases hf with hf | hf
    · rw [z1] at hf; exact absurd hf (nI_ne9 (by omega))
    · rw [z1] at hf; exact absurd (nI_le (by omega) (by omega)) hf
theorem lr_figs {g : GT} {M : MM} {L : LL} {ln : LN} {way : Nat} (hL : RLn M ln) (ok : LnOK ln) (hw : way < 2 ^ 20) : ∀ (f i : Nat), i + f = ln_n ln → JW g mX6_figuresOf 0 (Rt (some (.int (nI (figF (dgt (ln_n ln) way) (ln_n ln))))) M L) M L 10 [some (.ref (dq_A g 102)), some (.int (nI way)), some (.int (nI (smB (fun j => 10 ^ j * (way / 4 ^ j % 4)) i))), some (.int (nI (10 ^ i))), some (.int (nI (way / 4 ^ i))), some (.int (nI i))] [] := by
  have a1 := ok.1
  intro f
  induction f with
  | zero =>
    intro i hi
    refine ro_iload dX6_figuresOf_10 rfl ?_
    refine ro_aload_n dX6_figuresOf_12 rfl rfl ?_
    refine gf_X6_houses  in_X6_figuresOf_X6 lk_X6_figuresOf_93 dX6_figuresOf_13 ?_
    rw [hL.1]
    refine ro_icmp_ge 45 dX6_figuresOf_16 (by decide) (fun b16 => ?_) (fun b16 => ?_)
    · refine ro_iload_n dX6_figuresOf_45 rfl rfl ?_
      refine ro_iret rfl dX6_figuresOf_46 ?_
      exact ⟨by rw [show i = ln_n ln by omega, fig_way], rfl, rfl⟩
    · exact absurd (nI_le (by omega) (by omega)) b16
  | succ f ih =>
    intro i hi
    have hdl := Nat.div_le_self way (4 ^ i)
    refine ro_iload dX6_figuresOf_10 rfl ?_
    refine ro_aload_n dX6_figuresOf_12 rfl rfl ?_
    refine gf_X6_houses  in_X6_figuresOf_X6 lk_X6_figuresOf_93 dX6_figuresOf_13 ?_
    rw [hL.1]
    refine ro_icmp_ge 45 dX6_figuresOf_16 (by decide) (fun b16 => ?_) (fun b16 => ?_)
    · exact absurd b16 (nI_ge (by omega) (by omega))
    · refine ro_iload_n dX6_figuresOf_19 rfl rfl ?_
      refine ro_iload_n dX6_figuresOf_20 rfl rfl ?_
      refine ro_iload dX6_figuresOf_21 rfl ?_
      refine ro_iconst (v := 4) dX6_figuresOf_23 (by decide) ?_
      refine ro_irem dX6_figuresOf_24 (by decide) ?_
      refine ro_top (show _ = nI (way / 4 ^ i % 4) from pk_rem (d := 4) (by omega) (by decide) (by decide)) ?_
      refine ro_imul dX6_figuresOf_25 ?_
      rw [pk_mul]
      refine ro_iadd dX6_figuresOf_26 ?_
      rw [nI_add]
      refine ro_istore_n2 dX6_figuresOf_27 (Nat.le_of_ble_eq_true rfl) rfl ?_
      refine ro_iload_n dX6_figuresOf_28 rfl rfl ?_
      refine ro_bipush (v := 10) dX6_figuresOf_29 (by decide) ?_
      refine ro_imul dX6_figuresOf_31 ?_
      refine ro_top (show _ = nI (10 ^ (i + 1)) from by rw [show (10 : Int32) = nI 10 from rfl, pk_mul, Nat.pow_succ]) ?_
      refine ro_istore_n3 dX6_figuresOf_32 (Nat.le_of_ble_eq_true rfl) rfl ?_
      refine ro_iload dX6_figuresOf_33 rfl ?_
      refine ro_iconst (v := 4) dX6_figuresOf_35 (by decide) ?_
      refine ro_idiv dX6_figuresOf_36 (by decide) ?_
      refine ro_top (show _ = nI (way / 4 ^ (i + 1)) from by rw [show (4 : Int32) = nI 4 from rfl, pk_div (by omega) (by decide) (by decide), Nat.div_div_eq_div_mul, Nat.pow_succ]) ?_
      refine ro_istore4 dX6_figuresOf_37 (Nat.le_of_ble_eq_true rfl) rfl ?_
      refine ro_iincP5 dX6_figuresOf_39 (Nat.le_of_ble_eq_true rfl) rfl ?_
      refine ro_goto 10 dX6_figuresOf_42 (by decide) ?_
      rw [nI_1]
      exact ih (i + 1) (by omega)
theorem cr_figs {g : GT} {M : MM} {L : LL} {ln : LN} {way : Nat} (hL : RLn M ln) (ok : LnOK ln) (hw : way < 2 ^ 20) : CT g mX6_figuresOf 0 [.ref (dq_A g 102), .int (nI way)] M L (some (.int (nI (figF (dgt (ln_n ln) way) (ln_n ln))))) M L := by
  have a1 := ok.1
  refine ct_of ok_X6_figuresOf (lv := [some (.ref (dq_A g 102)), some (.int (nI way)), none, none, none, none]) rfl (Nat.le_of_ble_eq_true rfl) ?_
  refine ro_iconst (v := 0) dX6_figuresOf_0 (by decide) ?_
  refine ro_istore_n2 dX6_figuresOf_1 (Nat.le_of_ble_eq_true rfl) rfl ?_
  refine ro_iconst (v := 1) dX6_figuresOf_2 (by decide) ?_
  refine ro_istore_n3 dX6_figuresOf_3 (Nat.le_of_ble_eq_true rfl) rfl ?_
  refine ro_iload_n dX6_figuresOf_4 rfl rfl ?_
  refine ro_istore4 dX6_figuresOf_5 (Nat.le_of_ble_eq_true rfl) rfl ?_
  refine ro_iconst (v := 0) dX6_figuresOf_7 (by decide) ?_
  refine ro_istore5 dX6_figuresOf_8 (Nat.le_of_ble_eq_true rfl) rfl ?_
  have z := lr_figs (g := g) (L := L) hL ok hw (ln_n ln) 0 (by omega)
  rw [Nat.pow_zero, Nat.div_one] at z
  exact z
def lowT (n m : Nat) (c : SC) (d : Nat → Nat) : SC := (sc_who c, sc_kn c, fun j => if m ≤ j ∧ j < n then sc_vo c j - (d j : Nat) else sc_vo c j, sc_dry c, sc_hr c)
theorem lowT_n (n : Nat) (c : SC) (d : Nat → Nat) : lowT n n c d = c := by
  unfold lowT
  rw [show (fun j => if n ≤ j ∧ j < n then sc_vo c j - (d j : Nat) else sc_vo c j) = sc_vo c from funext fun j => if_neg (by omega)]
  rfl
theorem lowT_0 (n : Nat) (c : SC) (d : Nat → Nat) : lowT n 0 c d = lowW n c d := by
  unfold lowT lowW
  rw [show (fun j => if 0 ≤ j ∧ j < n then sc_vo c j - (d j : Nat) else sc_vo c j) = (fun j => if j < n then sc_vo c j - (d j : Nat) else sc_vo c j) from funext fun j => by
    by_cases h : j < n
    · rw [if_pos ⟨Nat.zero_le _, h⟩, if_pos h]
    · rw [if_neg (fun z => h z.2), if_neg h]]
theorem lowT_s {n m : Nat} {c : SC} {d : Nat → Nat} (hm : m < n) : (sc_who (lowT n (m + 1) c d), sc_kn (lowT n (m + 1) c d), va_up (sc_vo (lowT n (m + 1) c d)) m (sc_vo c m - (d m : Nat)), sc_dry (lowT n (m + 1) c d), sc_hr (lowT n (m + 1) c d)) = lowT n m c d := by
  show (_, _, va_up (fun j => if m + 1 ≤ j ∧ j < n then sc_vo c j - (d j : Nat) else sc_vo c j) m (sc_vo c m - (d m : Nat)), _, _) = (_, _, fun j => if m ≤ j ∧ j < n then sc_vo c j - (d j : Nat) else sc_vo c j, _, _)
  rw [show va_up (fun j => if m + 1 ≤ j ∧ j < n then sc_vo c j - (d j : Nat) else sc_vo c j) m (sc_vo c m - (d m : Nat)) = (fun j => if m ≤ j ∧ j < n then sc_vo c j - (d j : Nat) else sc_vo c j) from funext fun j => by
    by_cases e : j = m
    · subst e; rw [va_up_self, if_pos ⟨Nat.le_refl _, hm⟩]
    · rw [va_up_ne _ _ e]
      by_cases h : m + 1 ≤ j ∧ j < n
      · rw [if_pos h, if_pos (by omega)]
      · rw [if_neg h, if_neg (by omega)]]
  rfl
theorem lr_low {g : GT} {L : LL} {ln : LN} {b way k t nn : Nat} {c : SC} {M0 : MM} (ok : LnOK ln) (oc : ScOK (ln_n ln) b c) (hb : b < 2 ^ 28) (hw : way < 2 ^ 20) (hk : k < ln_n ln) (ht : t < 6) (hnn : nn ≤ 12) : ∀ (m : Nat) (M : MM), m ≤ ln_n ln → RLn M ln → ScR (M 107) (17 * 1) (ln_n ln) (lowT (ln_n ln) m c (dgt (ln_n ln) way)) → (∀ j, m ≤ j → j < ln_n ln → (dgt (ln_n ln) way) j ≤ mostW c j) → RScr M0 M → JW g mX6_loweredBy 4 (fun v M' L' => (∃ r : Int32, v = some (.int r) ∧ (Gd ln c k t nn (dgt (ln_n ln) way) → r = nI (smB (dgt (ln_n ln) way) (ln_n ln))) ∧ (¬ Gd ln c k t nn (dgt (ln_n ln) way) → r = -9)) ∧ RScr M0 M' ∧ L' = L) M L 18 [some (.ref (dq_A g 102)), some (.int (nI way)), some (.int (nI k)), some (.int (nI t)), some (.int (nI nn)), some (.int (nI (way / 4 ^ (ln_n ln - m)))), some (.int (nI (smB (fun j => (dgt (ln_n ln) way) (m + j)) (ln_n ln - m)))), some (.int (oI ((m : Int) - 1)))] [] := by
  have a1 := ok.1
  intro m
  induction m with
  | zero =>
    intro M hm hL hS hd0 ho
    have hd : ∀ e, e < ln_n ln → (dgt (ln_n ln) way) e ≤ mostW c e := fun e he => hd0 e (Nat.zero_le _) he
    have hS' : ScR (M 107) (17 * 1) (ln_n ln) (lowW (ln_n ln) c (dgt (ln_n ln) way)) := by rw [← lowT_0]; exact hS
    have hok := hrsC_ok ok (lowW_ok oc hd) nn
    refine ro_iload dX6_loweredBy_18 rfl ?_
    refine ro_if_lt 79 dX6_loweredBy_20 (by decide) (fun b20 => ?_) (fun b20 => ?_)
    · refine ro_aload_n dX6_loweredBy_79 rfl rfl ?_
      refine ro_iload dX6_loweredBy_80 rfl ?_
      refine ro_callV1Q ok_X6_goOn (cr_goOn hL ok hS' (lowW_ok oc hd) (by omega)) ce_X6 rfl rfl gX6_loweredBy_X6_goOn (Nat.le_of_ble_eq_true rfl) (Nat.le_of_ble_eq_true rfl) dX6_loweredBy_82 (fun v82 M82 L82 q82 => ?_)
      obtain ⟨rfl, hS82, hq82, ho82, rfl⟩ := q82
      refine ro_aload_n dX6_loweredBy_85 rfl rfl ?_
      refine ro_iconst (v := 1) dX6_loweredBy_86 (by decide) ?_
      refine ro_iload_n dX6_loweredBy_87 rfl rfl ?_
      refine ro_callV2 ok_X6_knowsAt (cr_knowsAt (lv := 1) (by decide) hS82 hok.1 a1 hk) ce_X6 rfl rfl gX6_loweredBy_X6_knowsAt (Nat.le_of_ble_eq_true rfl) (Nat.le_of_ble_eq_true rfl) dX6_loweredBy_88 ?_
      refine ro_iload_n dX6_loweredBy_91 rfl rfl ?_
      refine ro_callS2 ok_X6_has (cr_has (by have := hok.2.2.1 k; omega) (by omega)) gX6_loweredBy_X6_has (Nat.le_of_ble_eq_true rfl) (Nat.le_of_ble_eq_true rfl) dX6_loweredBy_92 ?_
      refine ro_if_eq 103 dX6_loweredBy_95 (by decide) (fun b95 => ?_) (fun b95 => ?_)
      · rw [bI_eq0] at b95
        refine ro_iload dX6_loweredBy_103 rfl ?_
        refine ro_iret rfl dX6_loweredBy_105 ?_
        refine ⟨⟨_, rfl, ?_, ?_⟩, ho.tr (RScr.lv1 ho82 hq82), rfl⟩
        · intro hg
          first
            | (have z2 := hg.2; unfold kepB at z2; rw [b95] at z2; exact absurd z2 (by decide))
            | exact congrArg nI (by rw [Nat.sub_zero]; exact smB_cong (fun j _ => by rw [Nat.zero_add]))
        · intro hg
          first
            | rfl
            | exact absurd ⟨hd, by unfold kepB; rw [b95]; rfl⟩ hg
      · rw [bI_ne0] at b95
        refine ro_bipush (v := -9) dX6_loweredBy_98 (by decide) ?_
        refine ro_goto 105 dX6_loweredBy_100 (by decide) ?_
        refine ro_iret rfl dX6_loweredBy_105 ?_
        refine ⟨⟨_, rfl, ?_, ?_⟩, ho.tr (RScr.lv1 ho82 hq82), rfl⟩
        · intro hg
          first
            | (have z2 := hg.2; unfold kepB at z2; rw [b95] at z2; exact absurd z2 (by decide))
            | exact congrArg nI (by rw [Nat.sub_zero]; exact smB_cong (fun j _ => by rw [Nat.zero_add]))
        · intro hg
          first
            | rfl
            | exact absurd ⟨hd, by unfold kepB; rw [b95]; rfl⟩ hg
    · exact absurd (show oI (((0 : Nat) : Int) - 1) < 0 by decide) b20
  | succ m ih =>
    intro M hm hL hS hd ho
    have hvm : M 107 (27 + m) = oI (sc_vo c m) := (hS.2.2.1 m (by omega)).trans (congrArg oI (if_neg (by omega)))
    have hv := oc.2.2.2.1 m
    have hmo := most_le c m hv.1
    have hdm : way / 4 ^ (ln_n ln - (m + 1)) % 4 = dgt (ln_n ln) way m := by unfold dgt; rw [show ln_n ln - 1 - m = ln_n ln - (m + 1) by omega]
    have hd4 : dgt (ln_n ln) way m < 4 := Nat.mod_lt _ (by decide)
    have hdl := Nat.div_le_self way (4 ^ (ln_n ln - (m + 1)))
    have hdv : way / 4 ^ (ln_n ln - (m + 1)) / 4 = way / 4 ^ (ln_n ln - m) := by rw [Nat.div_div_eq_div_mul, show 4 ^ (ln_n ln - (m + 1)) * 4 = 4 ^ (ln_n ln - m) from by rw [← Nat.pow_succ]; congr 1; omega]
    have hsm : smB (fun j => (dgt (ln_n ln) way) (m + j)) (ln_n ln - m) = dgt (ln_n ln) way m + smB (fun j => (dgt (ln_n ln) way) ((m + 1) + j)) (ln_n ln - (m + 1)) := by
      rw [show ln_n ln - m = ln_n ln - (m + 1) + 1 by omega, smB_sh]
      rw [smB_cong (fun j _ => show dgt (ln_n ln) way (m + (j + 1)) = dgt (ln_n ln) way (m + 1 + j) by rw [Nat.add_comm j 1, Nat.add_assoc])]
      rfl
    rw [show oI (((m + 1 : Nat) : Int) - 1) = nI m from by rw [nI_oI]; congr 1; omega]
    refine ro_iload dX6_loweredBy_18 rfl ?_
    refine ro_if_lt 79 dX6_loweredBy_20 (by decide) (fun b20 => ?_) (fun b20 => ?_)
    · exact absurd b20 (nI_pos (by omega))
    · refine ro_aload_n dX6_loweredBy_23 rfl rfl ?_
      refine gf_X6_now  in_X6_loweredBy_X6 lk_X6_loweredBy_22 dX6_loweredBy_24 ?_
      refine ro_bipush (v := 27) dX6_loweredBy_27 (by decide) ?_
      refine ro_iload dX6_loweredBy_29 rfl ?_
      refine ro_iadd dX6_loweredBy_31 ?_
      refine ro_top (show _ = nI (27 + m) from nI_add (27) (m)) ?_
      refine ro_dup2 dX6_loweredBy_32 rfl rfl ?_
      refine ro_ai ar_107 rfl (by omega) dX6_loweredBy_33 ?_
      rw [hvm]
      refine ro_iload dX6_loweredBy_34 rfl ?_
      refine ro_iconst (v := 4) dX6_loweredBy_36 (by decide) ?_
      refine ro_irem dX6_loweredBy_37 (by decide) ?_
      refine ro_top (show _ = nI (dgt (ln_n ln) way m) from by rw [show (4 : Int32) = nI 4 from rfl, pk_rem (by omega) (by decide) (by decide), hdm]) ?_
      refine ro_isub dX6_loweredBy_38 ?_
      refine ro_top (show _ = oI (sc_vo c m - (dgt (ln_n ln) way m : Nat)) from by rw [nI_oI, oI_sub]) ?_
      refine ro_as ar_107 rfl (by omega) dX6_loweredBy_39 (fun M39 e39 => ?_)
      have hxt : RScr M M39 := RScr.lv1 (OnlyB.up e39 (by decide) (by decide)) (fun q hq => by rw [e39, va_up_self, pk_un (by omega)])
      refine ro_iload dX6_loweredBy_40 rfl ?_
      refine ro_iload dX6_loweredBy_42 rfl ?_
      refine ro_iconst (v := 4) dX6_loweredBy_44 (by decide) ?_
      refine ro_irem dX6_loweredBy_45 (by decide) ?_
      refine ro_top (show _ = nI (dgt (ln_n ln) way m) from by rw [show (4 : Int32) = nI 4 from rfl, pk_rem (by omega) (by decide) (by decide), hdm]) ?_
      refine ro_iadd dX6_loweredBy_46 ?_
      refine ro_top (show _ = nI (smB (fun j => (dgt (ln_n ln) way) (m + j)) (ln_n ln - m)) from by rw [nI_add, hsm, Nat.add_comm]) ?_
      refine ro_istore6 dX6_loweredBy_47 (Nat.le_of_ble_eq_true rfl) rfl ?_
      refine ro_iload dX6_loweredBy_49 rfl ?_
      refine ro_iconst (v := 4) dX6_loweredBy_51 (by decide) ?_
      refine ro_idiv dX6_loweredBy_52 (by decide) ?_
      refine ro_top (show _ = nI (way / 4 ^ (ln_n ln - m)) from by rw [show (4 : Int32) = nI 4 from rfl, pk_div (by omega) (by decide) (by decide), hdv]) ?_
      refine ro_istore5 dX6_loweredBy_53 (Nat.le_of_ble_eq_true rfl) rfl ?_
      refine ro_aload_n dX6_loweredBy_55 rfl rfl ?_
      refine gf_X6_now  in_X6_loweredBy_X6 lk_X6_loweredBy_22 dX6_loweredBy_56 ?_
      refine ro_bipush (v := 27) dX6_loweredBy_59 (by decide) ?_
      refine ro_iload dX6_loweredBy_61 rfl ?_
      refine ro_iadd dX6_loweredBy_63 ?_
      refine ro_top (show _ = nI (27 + m) from nI_add (27) (m)) ?_
      refine ro_ai ar_107 rfl (by omega) dX6_loweredBy_64 ?_
      rw [show M39 107 (27 + m) = oI (sc_vo c m - (dgt (ln_n ln) way m : Nat)) from by rw [e39, va_up_self, pk_us]]
      refine ro_bipush (v := -3) dX6_loweredBy_65 (by decide) ?_
      refine ro_icmp_ge 73 dX6_loweredBy_67 (by decide) (fun b67 => ?_) (fun b67 => ?_)
      · rw [show (-3 : Int32) = oI (-3) from rfl, oI_le (by omega) (by omega) (by omega) (by omega)] at b67
        refine ro_iincM7 dX6_loweredBy_73 (Nat.le_of_ble_eq_true rfl) rfl ?_
        refine ro_goto 18 dX6_loweredBy_76 (by decide) ?_
        rw [show nI m - 1 = oI ((m : Int) - 1) from by rw [nI_oI, show (1 : Int32) = oI 1 from rfl, oI_sub]]
        refine ih M39 (by omega) (hL.k7 (OnlyB.up e39 (by decide) (by decide))) ?_ (fun j h1 h2 => ?_) (ho.tr hxt)
        · rw [e39, va_up_self, ← lowT_s (by omega)]
          exact hS.vo (z := sc_vo c m - (dgt (ln_n ln) way m : Nat)) (by omega)
        · by_cases e : j = m
          · subst e
            unfold mostW
            split <;> omega
          · exact hd j (by omega) h2
      · rw [show (-3 : Int32) = oI (-3) from rfl, oI_le (by omega) (by omega) (by omega) (by omega)] at b67
        refine ro_bipush (v := -9) dX6_loweredBy_70 (by decide) ?_
        refine ro_iret rfl dX6_loweredBy_72 ?_
        refine ⟨⟨_, rfl, fun hg => ?_, fun _ => rfl⟩, ho.tr hxt, rfl⟩
        have := hg.1 m (by omega)
        omega
theorem cr_lowered {g : GT} {M : MM} {L : LL} {ln : LN} {b way k t nn : Nat} {c : SC} (hL : RLn M ln) (ok : LnOK ln) (hS : ScR (M 107) (17 * 0) (ln_n ln) c) (oc : ScOK (ln_n ln) b c) (hb : b < 2 ^ 28) (hw : way < 2 ^ 20) (hk : k < ln_n ln) (ht : t < 6) (hnn : nn ≤ 12) : CTQ g mX6_loweredBy 4 [.ref (dq_A g 102), .int (nI way), .int (nI k), .int (nI t), .int (nI nn)] M L (fun v M' L' => (∃ r : Int32, v = some (.int r) ∧ (Gd ln c k t nn (dgt (ln_n ln) way) → r = nI (smB (dgt (ln_n ln) way) (ln_n ln))) ∧ (¬ Gd ln c k t nn (dgt (ln_n ln) way) → r = -9)) ∧ RScr M M' ∧ L' = L) := by
  have a1 := ok.1
  refine ct_of ok_X6_loweredBy (lv := [some (.ref (dq_A g 102)), some (.int (nI way)), some (.int (nI k)), some (.int (nI t)), some (.int (nI nn)), none, none, none]) rfl (Nat.le_of_ble_eq_true rfl) ?_
  refine ro_aload_n dX6_loweredBy_0 rfl rfl ?_
  refine ro_callV0Q ok_X6_layTrial (cr_lay0) ce_X6 rfl rfl gX6_loweredBy_X6_layTrial (Nat.le_of_ble_eq_true rfl) (Nat.le_of_ble_eq_true rfl) dX6_loweredBy_1 (fun v1 M1 L1 q1 => ?_)
  obtain ⟨rfl, hr1, hq1, ho1, rfl⟩ := q1
  have hS1 : ScR (M1 107) (17 * 1) (ln_n ln) c := hS.cong (fun k hk => by rw [show 17 * 1 + k = 17 + k from rfl, hr1 k hk, show 17 * 0 + k = k by omega])
  have hL1 := hL.k7 ho1
  have hx1 : RScr M M1 := RScr.lv1 ho1 (fun q z => hq1 q (by omega))
  refine ro_iload_n dX6_loweredBy_4 rfl rfl ?_
  refine ro_istore5 dX6_loweredBy_5 (Nat.le_of_ble_eq_true rfl) rfl ?_
  refine ro_iconst (v := 0) dX6_loweredBy_7 (by decide) ?_
  refine ro_istore6 dX6_loweredBy_8 (Nat.le_of_ble_eq_true rfl) rfl ?_
  refine ro_aload_n dX6_loweredBy_10 rfl rfl ?_
  refine gf_X6_houses  in_X6_loweredBy_X6 lk_X6_loweredBy_93 dX6_loweredBy_11 ?_
  rw [show M1 102 0 = nI (ln_n ln) from hL1.1]
  refine ro_iconst (v := 1) dX6_loweredBy_14 (by decide) ?_
  refine ro_isub dX6_loweredBy_15 ?_
  refine ro_istore7 dX6_loweredBy_16 (Nat.le_of_ble_eq_true rfl) rfl ?_
  rw [show nI (ln_n ln) - 1 = oI ((ln_n ln : Int) - 1) from by rw [nI_oI, show (1 : Int32) = oI 1 from rfl, oI_sub]]
  have z := lr_low (g := g) (L := L1) (M0 := M) ok oc hb hw hk ht hnn (ln_n ln) M1 (Nat.le_refl _) hL1 (by rw [lowT_n]; exact hS1) (fun j h1 h2 => by omega) hx1
  rw [Nat.sub_self, Nat.pow_zero, Nat.div_one] at z
  exact z
theorem lr_keeps {g : GT} {L : LL} {ln : LN} {b k t nn : Nat} {w : Int32} {c : SC} {M0 : MM} (ok : LnOK ln) (oc : ScOK (ln_n ln) b c) (hb : b < 2 ^ 28) (hk : k < ln_n ln) (ht : t < 6) (hnn : nn ≤ 12) : ∀ (f i : Nat), i + f = 4 ^ ln_n ln → ∀ (M : MM) (few best : Int32), RLn M ln → ScR (M 107) (17 * 0) (ln_n ln) c → RScr M0 M → KI ln c k t nn i few best → ∀ x8 x9 : Option Value, JW g mX6_keeps 5 (fun v M' L' => v = some (.int (if kepB ln c k t nn (mostW c) = true then (if w = 0 then nI (smB (kpW ln c k t nn) (ln_n ln)) else nI (figF (kpW ln c k t nn) (ln_n ln))) else -9)) ∧ RScr M0 M' ∧ L' = L) M L 54 [some (.ref (dq_A g 102)), some (.int (nI k)), some (.int (nI t)), some (.int (nI nn)), some (.int w), some (.int few), some (.int best), some (.int (nI i)), x8, x9] [] := by
  have a1 := ok.1
  have h4 : 4 ^ ln_n ln = 2 ^ (2 * ln_n ln) := by rw [Nat.pow_mul]
  have h5 : 4 ^ ln_n ln ≤ 4 ^ 5 := Nat.pow_le_pow_right (by decide) a1
  intro f
  induction f with
  | zero =>
    intro i hi M few best hL hS ho hI x8 x9
    refine ro_iload dX6_keeps_54 rfl ?_
    refine ro_iconst (v := 1) dX6_keeps_56 (by decide) ?_
    refine ro_iconst (v := 2) dX6_keeps_57 (by decide) ?_
    refine ro_aload_n dX6_keeps_58 rfl rfl ?_
    refine gf_X6_houses  in_X6_keeps_X6 lk_X6_keeps_93 dX6_keeps_59 ?_
    rw [hL.1]
    refine ro_imul dX6_keeps_62 ?_
    refine ro_top (show _ = nI (2 * ln_n ln) from pk_mul 2 (ln_n ln)) ?_
    refine ro_ishl dX6_keeps_63 ?_
    rw [sh_1 (2 * ln_n ln) (by omega)]
    refine ro_icmp_ge 144 dX6_keeps_64 (by decide) (fun b64 => ?_) (fun b64 => ?_)
    · refine ro_iload dX6_keeps_144 rfl ?_
      refine ro_if_ne 154 dX6_keeps_146 (by decide) (fun b146 => ?_) (fun b146 => ?_)
      · refine ro_iload dX6_keeps_154 rfl ?_
        refine ro_iret rfl dX6_keeps_156 ?_
        refine ⟨?_, ho, rfl⟩
        by_cases hK : kepB ln c k t nn (mostW c) = true
        · rw [if_pos hK]
          have hwl := (dgt_way _ _ (kp_4 oc hK)).1
          obtain ⟨z1, z2⟩ := (hI.2 hK).1 (by omega)
          first
            | (rw [if_pos b146, z1]; done)
            | (rw [if_neg b146, z2]; done)
        · rw [if_neg hK]
          obtain ⟨z1, z2⟩ := hI.1 (Bool.eq_false_iff.mpr hK)
          first
            | (rw [z1]; done)
            | (rw [z2]; done)
      · refine ro_iload dX6_keeps_149 rfl ?_
        refine ro_goto 156 dX6_keeps_151 (by decide) ?_
        refine ro_iret rfl dX6_keeps_156 ?_
        refine ⟨?_, ho, rfl⟩
        by_cases hK : kepB ln c k t nn (mostW c) = true
        · rw [if_pos hK]
          have hwl := (dgt_way _ _ (kp_4 oc hK)).1
          obtain ⟨z1, z2⟩ := (hI.2 hK).1 (by omega)
          first
            | (rw [if_pos b146, z1]; done)
            | (rw [if_neg b146, z2]; done)
        · rw [if_neg hK]
          obtain ⟨z1, z2⟩ := hI.1 (Bool.eq_false_iff.mpr hK)
          first
            | (rw [z1]; done)
            | (rw [z2]; done)
    · exact absurd (nI_le (by omega) (by omega)) b64
  | succ f ih =>
    intro i hi M few best hL hS ho hI x8 x9
    refine ro_iload dX6_keeps_54 rfl ?_
    refine ro_iconst (v := 1) dX6_keeps_56 (by decide) ?_
    refine ro_iconst (v := 2) dX6_keeps_57 (by decide) ?_
    refine ro_aload_n dX6_keeps_58 rfl rfl ?_
    refine gf_X6_houses  in_X6_keeps_X6 lk_X6_keeps_93 dX6_keeps_59 ?_
    rw [hL.1]
    refine ro_imul dX6_keeps_62 ?_
    refine ro_top (show _ = nI (2 * ln_n ln) from pk_mul 2 (ln_n ln)) ?_
    refine ro_ishl dX6_keeps_63 ?_
    rw [sh_1 (2 * ln_n ln) (by omega)]
    refine ro_icmp_ge 144 dX6_keeps_64 (by decide) (fun b64 => ?_) (fun b64 => ?_)
    · exact absurd b64 (nI_ge (by omega) (by omega))
    · refine ro_aload_n dX6_keeps_67 rfl rfl ?_
      refine ro_iload dX6_keeps_68 rfl ?_
      refine ro_iload_n dX6_keeps_70 rfl rfl ?_
      refine ro_iload_n dX6_keeps_71 rfl rfl ?_
      refine ro_iload_n dX6_keeps_72 rfl rfl ?_
      refine ro_callV4Q ok_X6_loweredBy (cr_lowered hL ok hS oc hb (by omega) hk ht hnn) ce_X6 rfl rfl gX6_keeps_X6_loweredBy (Nat.le_of_ble_eq_true rfl) (Nat.le_of_ble_eq_true rfl) dX6_keeps_73 (fun v73 M73 L73 q73 => ?_)
      obtain ⟨⟨r, rfl, hg1, hg2⟩, hx73, rfl⟩ := q73
      have hL73 := RScr.lane hL hx73
      have hS73 := RScr.sc0 hS hx73
      refine ro_istore8 dX6_keeps_76 (Nat.le_of_ble_eq_true rfl) rfl ?_
      refine ro_iload dX6_keeps_78 rfl ?_
      refine ro_bipush (v := -9) dX6_keeps_80 (by decide) ?_
      refine ro_icmp_eq 103 dX6_keeps_82 (by decide) (fun b82 => ?_) (fun b82 => ?_)
      · have hgd : ¬ Gd ln c k t nn (dgt (ln_n ln) i) := fun z => by rw [hg1 z] at b82; exact absurd b82 (nI_ne9 (by have := sm_d (i := i) a1; omega))
        refine ro_iconst (v := 0) dX6_keeps_103 (by decide) ?_
        refine ro_istore9 dX6_keeps_104 (Nat.le_of_ble_eq_true rfl) rfl ?_
        refine ro_iload dX6_keeps_106 rfl ?_
        refine ro_if_eq 120 dX6_keeps_108 (by decide) (fun b108 => ?_) (fun b108 => ?_)
        · refine ro_iload dX6_keeps_120 rfl ?_
          refine ro_istore6 dX6_keeps_122 (Nat.le_of_ble_eq_true rfl) rfl ?_
          refine ro_iload dX6_keeps_124 rfl ?_
          refine ro_if_eq 134 dX6_keeps_126 (by decide) (fun b126 => ?_) (fun b126 => ?_)
          · refine ro_iload dX6_keeps_134 rfl ?_
            refine ro_istore5 dX6_keeps_136 (Nat.le_of_ble_eq_true rfl) rfl ?_
            refine ro_iincP7 dX6_keeps_138 (Nat.le_of_ble_eq_true rfl) rfl ?_
            refine ro_goto 54 dX6_keeps_141 (by decide) ?_
            rw [nI_1]
            first
              | exact ih (i + 1) (by omega) M73 _ _ hL73 hS73 (ho.tr hx73) (KI_better ok oc (by omega) hgd (Or.inl b89) hI) _ _
              | exact ih (i + 1) (by omega) M73 _ _ hL73 hS73 (ho.tr hx73) (KI_better ok oc (by omega) hgd (Or.inr b96) hI) _ _
              | exact ih (i + 1) (by omega) M73 _ _ hL73 hS73 (ho.tr hx73) (KI_no ok oc (by omega) hgd hI) _ _
              | exact ih (i + 1) (by omega) M73 _ _ hL73 hS73 (ho.tr hx73) (KI_worse ok oc (by omega) hgd b89 b96 hI) _ _
          · exact absurd b126 (by decide)
        · exact absurd b108 (by decide)
      · have hgd : Gd ln c k t nn (dgt (ln_n ln) i) := Classical.byContradiction fun z => b82 (hg2 z)
        have hr := hg1 hgd
        subst hr
        refine ro_iload dX6_keeps_85 rfl ?_
        refine ro_bipush (v := -9) dX6_keeps_87 (by decide) ?_
        refine ro_icmp_eq 99 dX6_keeps_89 (by decide) (fun b89 => ?_) (fun b89 => ?_)
        · refine ro_iconst (v := 1) dX6_keeps_99 (by decide) ?_
          refine ro_goto 104 dX6_keeps_100 (by decide) ?_
          refine ro_istore9 dX6_keeps_104 (Nat.le_of_ble_eq_true rfl) rfl ?_
          refine ro_iload dX6_keeps_106 rfl ?_
          refine ro_if_eq 120 dX6_keeps_108 (by decide) (fun b108 => ?_) (fun b108 => ?_)
          · exact absurd b108 (by decide)
          · refine ro_aload_n dX6_keeps_111 rfl rfl ?_
            refine ro_iload dX6_keeps_112 rfl ?_
            refine ro_callV1 ok_X6_figuresOf (cr_figs hL73 ok (by omega)) ce_X6 rfl rfl gX6_keeps_X6_figuresOf (Nat.le_of_ble_eq_true rfl) (Nat.le_of_ble_eq_true rfl) dX6_keeps_114 ?_
            refine ro_goto 122 dX6_keeps_117 (by decide) ?_
            refine ro_istore6 dX6_keeps_122 (Nat.le_of_ble_eq_true rfl) rfl ?_
            refine ro_iload dX6_keeps_124 rfl ?_
            refine ro_if_eq 134 dX6_keeps_126 (by decide) (fun b126 => ?_) (fun b126 => ?_)
            · exact absurd b126 (by decide)
            · refine ro_iload dX6_keeps_129 rfl ?_
              refine ro_goto 136 dX6_keeps_131 (by decide) ?_
              refine ro_istore5 dX6_keeps_136 (Nat.le_of_ble_eq_true rfl) rfl ?_
              refine ro_iincP7 dX6_keeps_138 (Nat.le_of_ble_eq_true rfl) rfl ?_
              refine ro_goto 54 dX6_keeps_141 (by decide) ?_
              rw [nI_1]
              first
                | exact ih (i + 1) (by omega) M73 _ _ hL73 hS73 (ho.tr hx73) (KI_better ok oc (by omega) hgd (Or.inl b89) hI) _ _
                | exact ih (i + 1) (by omega) M73 _ _ hL73 hS73 (ho.tr hx73) (KI_better ok oc (by omega) hgd (Or.inr b96) hI) _ _
                | exact ih (i + 1) (by omega) M73 _ _ hL73 hS73 (ho.tr hx73) (KI_no ok oc (by omega) hgd hI) _ _
                | exact ih (i + 1) (by omega) M73 _ _ hL73 hS73 (ho.tr hx73) (KI_worse ok oc (by omega) hgd b89 b96 hI) _ _
        · refine ro_iload dX6_keeps_92 rfl ?_
          refine ro_iload dX6_keeps_94 rfl ?_
          refine ro_icmp_ge 103 dX6_keeps_96 (by decide) (fun b96 => ?_) (fun b96 => ?_)
          · refine ro_iconst (v := 0) dX6_keeps_103 (by decide) ?_
            refine ro_istore9 dX6_keeps_104 (Nat.le_of_ble_eq_true rfl) rfl ?_
            refine ro_iload dX6_keeps_106 rfl ?_
            refine ro_if_eq 120 dX6_keeps_108 (by decide) (fun b108 => ?_) (fun b108 => ?_)
            · refine ro_iload dX6_keeps_120 rfl ?_
              refine ro_istore6 dX6_keeps_122 (Nat.le_of_ble_eq_true rfl) rfl ?_
              refine ro_iload dX6_keeps_124 rfl ?_
              refine ro_if_eq 134 dX6_keeps_126 (by decide) (fun b126 => ?_) (fun b126 => ?_)
              · refine ro_iload dX6_keeps_134 rfl ?_
                refine ro_istore5 dX6_keeps_136 (Nat.le_of_ble_eq_true rfl) rfl ?_
                refine ro_iincP7 dX6_keeps_138 (Nat.le_of_ble_eq_true rfl) rfl ?_
                refine ro_goto 54 dX6_keeps_141 (by decide) ?_
                rw [nI_1]
                first
                  | exact ih (i + 1) (by omega) M73 _ _ hL73 hS73 (ho.tr hx73) (KI_better ok oc (by omega) hgd (Or.inl b89) hI) _ _
                  | exact ih (i + 1) (by omega) M73 _ _ hL73 hS73 (ho.tr hx73) (KI_better ok oc (by omega) hgd (Or.inr b96) hI) _ _
                  | exact ih (i + 1) (by omega) M73 _ _ hL73 hS73 (ho.tr hx73) (KI_no ok oc (by omega) hgd hI) _ _
                  | exact ih (i + 1) (by omega) M73 _ _ hL73 hS73 (ho.tr hx73) (KI_worse ok oc (by omega) hgd b89 b96 hI) _ _
              · exact absurd b126 (by decide)
            · exact absurd b108 (by decide)
          · refine ro_iconst (v := 1) dX6_keeps_99 (by decide) ?_
            refine ro_goto 104 dX6_keeps_100 (by decide) ?_
            refine ro_istore9 dX6_keeps_104 (Nat.le_of_ble_eq_true rfl) rfl ?_
            refine ro_iload dX6_keeps_106 rfl ?_
            refine ro_if_eq 120 dX6_keeps_108 (by decide) (fun b108 => ?_) (fun b108 => ?_)
            · exact absurd b108 (by decide)
            · refine ro_aload_n dX6_keeps_111 rfl rfl ?_
              refine ro_iload dX6_keeps_112 rfl ?_
              refine ro_callV1 ok_X6_figuresOf (cr_figs hL73 ok (by omega)) ce_X6 rfl rfl gX6_keeps_X6_figuresOf (Nat.le_of_ble_eq_true rfl) (Nat.le_of_ble_eq_true rfl) dX6_keeps_114 ?_
              refine ro_goto 122 dX6_keeps_117 (by decide) ?_
              refine ro_istore6 dX6_keeps_122 (Nat.le_of_ble_eq_true rfl) rfl ?_
              refine ro_iload dX6_keeps_124 rfl ?_
              refine ro_if_eq 134 dX6_keeps_126 (by decide) (fun b126 => ?_) (fun b126 => ?_)
              · exact absurd b126 (by decide)
              · refine ro_iload dX6_keeps_129 rfl ?_
                refine ro_goto 136 dX6_keeps_131 (by decide) ?_
                refine ro_istore5 dX6_keeps_136 (Nat.le_of_ble_eq_true rfl) rfl ?_
                refine ro_iincP7 dX6_keeps_138 (Nat.le_of_ble_eq_true rfl) rfl ?_
                refine ro_goto 54 dX6_keeps_141 (by decide) ?_
                rw [nI_1]
                first
                  | exact ih (i + 1) (by omega) M73 _ _ hL73 hS73 (ho.tr hx73) (KI_better ok oc (by omega) hgd (Or.inl b89) hI) _ _
                  | exact ih (i + 1) (by omega) M73 _ _ hL73 hS73 (ho.tr hx73) (KI_better ok oc (by omega) hgd (Or.inr b96) hI) _ _
                  | exact ih (i + 1) (by omega) M73 _ _ hL73 hS73 (ho.tr hx73) (KI_no ok oc (by omega) hgd hI) _ _
                  | exact ih (i + 1) (by omega) M73 _ _ hL73 hS73 (ho.tr hx73) (KI_worse ok oc (by omega) hgd b89 b96 hI) _ _
theorem cr_keeps {g : GT} {M : MM} {L : LL} {S : ST} {b : Nat} {x y m q : Int32} (h : RR M L S) (ok : StOK b S) : CTQ g mX6_keeps 5 [.ref (dq_A g 102), .int x, .int y, .int m, .int q] M L (QR M L (sp_keeps S x y m q)) := by
  have hL := h.1
  have hS : ScR (M 107) (17 * 0) (ln_n (st_l S)) (st_c S) := h.2.1
  have hA := h.2.2.2.2.1
  have okl := ok.2.2.1
  have oc := ok.2.2.2.1
  have a1 := okl.1
  have hb := ok.2.2.2.2.2.2.2
  have h64 := ok.1
  refine ct_of ok_X6_keeps (lv := [some (.ref (dq_A g 102)), some (.int x), some (.int y), some (.int m), some (.int q), none, none, none, none, none]) rfl (Nat.le_of_ble_eq_true rfl) ?_
  refine ro_aload_n dX6_keeps_0 rfl rfl ?_
  refine ro_iload_n dX6_keeps_1 rfl rfl ?_
  refine ro_callV1 ok_X6_isHouse (cr_isHouse hL okl x) ce_X6 rfl rfl gX6_keeps_X6_isHouse (Nat.le_of_ble_eq_true rfl) (Nat.le_of_ble_eq_true rfl) dX6_keeps_2 ?_
  refine ro_if_eq 15 dX6_keeps_5 (by decide) (fun b5 => ?_) (fun b5 => ?_)
  · rw [bI_eq0] at b5
    refine ro_iconst (v := -1) dX6_keeps_15 (by decide) ?_
    refine ro_iret rfl dX6_keeps_16 ?_
    rw [show sp_keeps S x y m q = (-1, S) from by unfold sp_keeps; rw [if_neg (fun z => by first | (rw [b5] at z; exact absurd z.1 (by decide)) | (rw [b12] at z; exact absurd z.2 (by decide)))]]
    exact ⟨rfl, h, RScr.rf.all, rfl⟩
  · rw [bI_ne0] at b5
    refine ro_iload_n dX6_keeps_8 rfl rfl ?_
    refine ro_callS1 ok_X6_isThing (cr_isThing y) gX6_keeps_X6_isThing (Nat.le_of_ble_eq_true rfl) (Nat.le_of_ble_eq_true rfl) dX6_keeps_9 ?_
    refine ro_if_ne 17 dX6_keeps_12 (by decide) (fun b12 => ?_) (fun b12 => ?_)
    · rw [bI_ne0] at b12
      obtain ⟨k, hk, rfl⟩ := hB_some (by omega) b5
      obtain ⟨t, ht, rfl⟩ := hB_some (by omega) b12
      refine ro_iload_n dX6_keeps_17 rfl rfl ?_
      refine ro_i2l dX6_keeps_18 ?_
      refine ro_lconst (v := 1) dX6_keeps_19 (by decide) ?_
      refine ro_ldc2 dX6_keeps_20 lk_X6_keeps_171 ?_
      refine ro_callS3 ok_X6_in (cr_in _ _ _) gX6_keeps_X6_in (Nat.le_of_ble_eq_true rfl) (Nat.le_of_ble_eq_true rfl) dX6_keeps_23 ?_
      rw [in_r (a := 1) (b := 12) rfl rfl]
      refine ro_if_eq 40 dX6_keeps_26 (by decide) (fun b26 => ?_) (fun b26 => ?_)
      · rw [bI_eq0, decide_eq_false_iff_not] at b26
        refine ro_bipush (v := -2) dX6_keeps_40 (by decide) ?_
        refine ro_iret rfl dX6_keeps_42 ?_
        refine ⟨?_, h, RScr.rf.all, rfl⟩
        show _ = some (Value.int (sp_keeps S _ _ _ _).1)
        unfold sp_keeps
        rw [if_pos ⟨b5, b12⟩, if_pos (Classical.byContradiction fun z => by
          first
            | exact b26 ⟨fun y => z (Or.inl y), fun y => z (Or.inr (Or.inl y))⟩
            | exact z (Or.inr (Or.inr b37)))]
      · rw [bI_ne0, decide_eq_true_eq] at b26
        obtain ⟨n, hn1, hn, rfl⟩ := in_rs (lo := 1) (hi := 12) (by decide) (by decide) b26.1 b26.2
        refine ro_iload dX6_keeps_29 rfl ?_
        refine ro_i2l dX6_keeps_31 ?_
        refine ro_lconst (v := 0) dX6_keeps_32 (by decide) ?_
        refine ro_lconst (v := 1) dX6_keeps_33 (by decide) ?_
        refine ro_callS3 ok_X6_in (cr_in _ _ _) gX6_keeps_X6_in (Nat.le_of_ble_eq_true rfl) (Nat.le_of_ble_eq_true rfl) dX6_keeps_34 ?_
        rw [in_hB (n := 2) rfl (by decide), zo_hB]
        refine ro_if_ne 43 dX6_keeps_37 (by decide) (fun b37 => ?_) (fun b37 => ?_)
        · rw [bI_ne0] at b37
          refine ro_bipush (v := -9) dX6_keeps_43 (by decide) ?_
          refine ro_istore5 dX6_keeps_45 (Nat.le_of_ble_eq_true rfl) rfl ?_
          refine ro_bipush (v := -9) dX6_keeps_47 (by decide) ?_
          refine ro_istore6 dX6_keeps_49 (Nat.le_of_ble_eq_true rfl) rfl ?_
          refine ro_iconst (v := 0) dX6_keeps_51 (by decide) ?_
          refine ro_istore7 dX6_keeps_52 (Nat.le_of_ble_eq_true rfl) rfl ?_
          refine JW.mono ?_ (lr_keeps (w := q) (nn := n) okl oc (by omega) hk ht hn (4 ^ ln_n (st_l S)) 0 (by omega) M (-9) (-9) hL hS RScr.rf ⟨fun _ => ⟨rfl, rfl⟩, fun _ => ⟨fun z => absurd z (Nat.not_lt_zero _), fun _ => Or.inl rfl⟩⟩ none none)
          rintro v M' L' ⟨rfl, ho, rfl⟩
          refine ⟨?_, h.scr ho rfl, ho.all, rfl⟩
          rw [show sp_keeps S (nI k) (nI t) (nI n) q = ((if kepB (st_l S) (st_c S) k t n (mostW (st_c S)) = true then (if q = 0 then nI (smB (kpW (st_l S) (st_c S) k t n) (ln_n (st_l S))) else nI (figF (kpW (st_l S) (st_c S) k t n) (ln_n (st_l S)))) else -9), S) from by unfold sp_keeps; rw [if_pos ⟨b5, b12⟩, if_neg (fun z => z.elim b26.1 (fun z => z.elim b26.2 (fun z => by rw [b37] at z; cases z))), kx_nI (by omega), kx_nI (by omega), kx_nI (by omega)]]
        · rw [bI_eq0] at b37
          refine ro_bipush (v := -2) dX6_keeps_40 (by decide) ?_
          refine ro_iret rfl dX6_keeps_42 ?_
          refine ⟨?_, h, RScr.rf.all, rfl⟩
          show _ = some (Value.int (sp_keeps S _ _ _ _).1)
          unfold sp_keeps
          rw [if_pos ⟨b5, b12⟩, if_pos (Classical.byContradiction fun z => by
            first
              | exact b26 ⟨fun y => z (Or.inl y), fun y => z (Or.inr (Or.inl y))⟩
              | exact z (Or.inr (Or.inr b37)))]
    · rw [bI_eq0] at b12
      refine ro_iconst (v := -1) dX6_keeps_15 (by decide) ?_
      refine ro_iret rfl dX6_keeps_16 ?_
      rw [show sp_keeps S x y m q = (-1, S) from by unfold sp_keeps; rw [if_neg (fun z => by first | (rw [b5] at z; exact absurd z.1 (by decide)) | (rw [b12] at z; exact absurd z.2 (by decide)))]]
      exact ⟨rfl, h, RScr.rf.all, rfl⟩
