theorem fb_holes : ∀ (m n : Nat) (f : Nat → Nat), (∀ i, i < n → f i < m) → (∀ i j, i < j → j < n → f i ≠ f j) → n ≤ m := by
  intro m
  induction m with
  | zero =>
    intro n f h1 _
    rcases Nat.eq_zero_or_pos n with h | h
    · omega
    · exact absurd (h1 0 h) (Nat.not_lt_zero _)
  | succ m ih =>
    intro n f h1 h2
    by_cases hx : ∃ i, i < n ∧ f i = m
    · obtain ⟨a, ha, hfa⟩ := hx
      have hg := ih (n - 1) (fun i => if i < a then f i else f (i + 1)) (by
        intro i hi
        by_cases q : i < a
        · simp only [if_pos q]
          have b1 := h1 i (by omega)
          have b2 := h2 i a q ha
          omega
        · simp only [if_neg q]
          have b1 := h1 (i + 1) (by omega)
          have b2 := h2 a (i + 1) (by omega) (by omega)
          omega) (by
        intro i j hij hj
        by_cases q : i < a
        · by_cases r : j < a
          · simp only [if_pos q, if_pos r]
            exact h2 i j hij (by omega)
          · simp only [if_pos q, if_neg r]
            exact h2 i (j + 1) (by omega) (by omega)
        · have r : ¬ j < a := by omega
          simp only [if_neg q, if_neg r]
          exact h2 (i + 1) (j + 1) (by omega) (by omega))
      omega
    · have hg := ih n f (fun i hi => by
        have b1 := h1 i hi
        have b2 : f i ≠ m := fun e => hx ⟨i, hi, e⟩
        omega) h2
      omega
/-- two of them in one place -/
theorem fb_twice {m n : Nat} {f : Nat → Nat} (h : ∀ i, i < n → f i < m) (hm : m < n) : ∃ i j, i < j ∧ j < n ∧ f i = f j := by
  refine Classical.byContradiction fun hx => ?_
  have := fb_holes m n f h (fun i j hij hj e => hx ⟨i, j, hij, hj, e⟩)
  omega
/-- as many as places, none twice: each place is taken -/
theorem fb_onto {n : Nat} {f : Nat → Nat} (h : ∀ i, i < n → f i < n) (h2 : ∀ i j, i < j → j < n → f i ≠ f j) {y : Nat} (hy : y < n) : ∃ i, i < n ∧ f i = y := by
  refine Classical.byContradiction fun hx => ?_
  have hne : ∀ i, i < n → f i ≠ y := fun i hi e => hx ⟨i, hi, e⟩
  have := fb_holes (n - 1) n (fun i => if f i < y then f i else f i - 1) (by
    intro i hi
    have b1 := h i hi
    have b2 := hne i hi
    by_cases q : f i < y
    · simp only [if_pos q]; omega
    · simp only [if_neg q]; omega) (by
    intro i j hij hj
    have b1 := hne i (by omega)
    have b2 := hne j hj
    have b3 := h2 i j hij hj
    by_cases q : f i < y
    · by_cases r : f j < y
      · simp only [if_pos q, if_pos r]; exact b3
      · simp only [if_pos q, if_neg r]; omega
    · by_cases r : f j < y
      · simp only [if_neg q, if_pos r]; omega
      · simp only [if_neg q, if_neg r]; omega)
  omega
/-! ===== how many places have a property ===== -/
theorem who_onto {n b k : Nat} {c : SC} (oc : ScOK n b c) (hk : k < n) : ∃ j, j < n ∧ sc_who c j = k := fb_onto oc.1 (fun i j h1 h2 h3 => absurd (oc.2.1 i j (by omega) h2 h3) (by omega)) hk
theorem orB_perm {n b : Nat} {c : SC} {f : Nat → Nat} {kn : Nat → Nat} (oc : ScOK n b c) (h : ∀ j, j < n → f (sc_who c j) = kn j) : orB (fun _ => true) f n = orB (fun _ => true) kn n := by
  apply Nat.eq_of_testBit_eq
  intro t
  apply Bool.eq_iff_iff.mpr
  rw [orB_bit, orB_bit]
  constructor
  · rintro ⟨k, h1, h2, h3⟩
    obtain ⟨j, hj, rfl⟩ := who_onto oc h1
    exact ⟨j, hj, rfl, by rw [← h j hj]; exact h3⟩
  · rintro ⟨j, h1, h2, h3⟩
    exact ⟨sc_who c j, oc.1 j h1, rfl, by rw [h j h1]; exact h3⟩
theorem smB_add (f h : Nat → Nat) : ∀ n, smB (fun k => f k + h k) n = smB f n + smB h n
  | 0 => rfl
  | n + 1 => by rw [smB, smB, smB, smB_add f h n]; omega
theorem smB_zero : ∀ n, smB (fun _ => 0) n = 0
  | 0 => rfl
  | n + 1 => by rw [smB, smB_zero n]
theorem smB_swap (f : Nat → Nat → Nat) (m : Nat) : ∀ n, smB (fun k => smB (fun j => f k j) m) n = smB (fun j => smB (fun k => f k j) n) m
  | 0 => (smB_zero m).symm
  | n + 1 => by
    rw [smB, smB_swap f m n, ← smB_add]
    rfl
theorem smB_one (x : Nat → Nat) (a : Nat) : ∀ n, smB (fun k => if a = k then x k else 0) n = if a < n then x a else 0
  | 0 => by rw [if_neg (Nat.not_lt_zero a)]; rfl
  | n + 1 => by
    rw [smB, smB_one x a n]
    by_cases h : a = n
    · subst h; rw [if_neg (Nat.lt_irrefl a), if_pos rfl, if_pos (Nat.lt_succ_self a)]; omega
    · rw [if_neg h]
      by_cases h2 : a < n
      · rw [if_pos h2, if_pos (by omega)]; omega
      · rw [if_neg h2, if_neg (by omega)]
theorem smB_perm {n b : Nat} {c : SC} (oc : ScOK n b c) (x : Nat → Nat) : smB x n = smB (fun j => x (sc_who c j)) n := by
  have h1 : smB x n = smB (fun k => smB (fun j => if sc_who c j = k then x k else 0) n) n := by
    refine smB_cong (fun k hk => ?_)
    obtain ⟨j0, hj0, rfl⟩ := who_onto oc hk
    rw [smB_cong (h := fun j => if j0 = j then (fun _ => x (sc_who c j0)) j else 0) (fun j hj => ?_), smB_one, if_pos hj0]
    by_cases e : j0 = j
    · subst e; rw [if_pos rfl, if_pos rfl]
    · rw [if_neg e, if_neg (fun z => e (oc.2.1 j j0 hj hj0 z).symm)]
  rw [h1, smB_swap]
  refine smB_cong (fun j hj => ?_)
  rw [smB_one, if_pos (oc.1 j hj)]
theorem ctB_sm (p : Nat → Bool) : ∀ n, ctB p n = smB (fun k => if p k = true then 1 else 0) n
  | 0 => rfl
  | n + 1 => by rw [ctB, smB, ctB_sm p n]
theorem ctB_perm {n b : Nat} {c : SC} (oc : ScOK n b c) (p : Nat → Bool) : ctB p n = ctB (fun j => p (sc_who c j)) n := by rw [ctB_sm, ctB_sm, smB_perm oc]
theorem pop_low {m n : Nat} (hm : m < 2 ^ n) (hn : n ≤ 8) : pop m = ctB m.testBit n := by
  have h2 : ∀ k, ctB m.testBit (n + k) = ctB m.testBit n := by
    intro k
    induction k with
    | zero => rfl
    | succ k ih =>
      rw [← Nat.add_assoc, ctB, ih, Nat.testBit_lt_two_pow (Nat.lt_of_lt_of_le hm (Nat.pow_le_pow_right (by decide) (Nat.le_add_right n k)))]
      rfl
  have h3 := h2 (8 - n)
  rw [show n + (8 - n) = 8 by omega] at h3
  exact h3
theorem bit_have {a t : Nat} (h : a.testBit t = true) : a ||| 2 ^ t = a := by
  apply Nat.eq_of_testBit_eq
  intro j
  rw [Nat.testBit_or, Nat.testBit_two_pow]
  by_cases e : t = j
  · subst e; rw [h]; rfl
  · rw [decide_eq_false e, Bool.or_false]
theorem bit_new {a t : Nat} (h : a.testBit t = false) : ¬ a ||| 2 ^ t = a := by
  intro z
  have := congrArg (fun q => q.testBit t) z
  simp only [Nat.testBit_or, Nat.testBit_two_pow_self, Bool.or_true, h] at this
  cases this
theorem or_all {n : Nat} {kn : Nat → Nat} {j : Nat} (hj : j < n) : kn j ||| orB (fun _ => true) kn n = orB (fun _ => true) kn n := by
  apply Nat.eq_of_testBit_eq
  intro t
  rw [Nat.testBit_or]
  cases h : (kn j).testBit t
  · rfl
  · rw [orB_bit.mpr ⟨j, hj, rfl, h⟩]; rfl
theorem hb_243 {g : GT} {M : MM} {L : LL} {lv : Nat} {ln : LN} {b r : Nat} {c : SC} {M0 : MM} (hv : lv < 2) (ok : LnOK ln) (oc : ScOK (ln_n ln) b c) (hr : r ≤ 9) (hb : b < 2 ^ 30) {m : Nat} {x4 : Int32} {x6 x7 : Option Value} (hm : m < 2 ^ ln_n ln) (hcount : pop m = hourN ln r c) (hrow : ScR (M 107) (17 * lv) (ln_n ln) (sc_who c, kn2 ln r c, sc_vo c, (dryN r (sc_dry c)), sc_hr c)) (hq0 : ∀ q, (q < 17 * lv ∨ 17 * lv + 17 ≤ q) → M 107 q = M0 107 q) (ho : OnlyB 107 107 M0 M) : JW g mX6_hourBy 2 (fun v M' L' => v = some (.int (nI (hourN ln r c))) ∧ ScR (M' 107) (17 * lv) (ln_n ln) (hourC ln r c) ∧ (∀ q, (q < 17 * lv ∨ 17 * lv + 17 ≤ q) → M' 107 q = M0 107 q) ∧ OnlyB 107 107 M0 M' ∧ L' = L) M L 243 [some (.ref (dq_A g 102)), some (.int (nI lv)), some (.int (nI r)), some (.int (nI (17 * lv))), some (.int x4), some (.int (nI m)), x6, x7] [] := by
  refine ro_aload_n dX6_hourBy_243 rfl rfl ?_
  refine gf_X6_now  in_X6_hourBy_X6 lk_X6_hourBy_22 dX6_hourBy_244 ?_
  refine ro_iload_n dX6_hourBy_247 rfl rfl ?_
  refine ro_bipush (v := 15) dX6_hourBy_248 (by decide) ?_
  refine ro_iadd dX6_hourBy_250 ?_
  refine ro_top (show _ = nI (17 * lv + 15) from nI_add (17 * lv) (15)) ?_
  refine ro_dup2 dX6_hourBy_251 rfl rfl ?_
  refine ro_ai ar_107 rfl (by omega) dX6_hourBy_252 ?_
  rw [hrow.2.2.2.1]
  refine ro_iconst (v := 1) dX6_hourBy_253 (by decide) ?_
  refine ro_iadd dX6_hourBy_254 ?_
  rw [nI_1]
  refine ro_as ar_107 rfl (by omega) dX6_hourBy_255 (fun M255 e255 => ?_)
  refine ro_iload dX6_hourBy_256 rfl ?_
  refine ro_callS1 ok_X6_ones (cr_ones (Nat.lt_of_lt_of_le hm (Nat.le_trans (Nat.pow_le_pow_right (by decide) ok.1) (by decide)))) gX6_hourBy_X6_ones (Nat.le_of_ble_eq_true rfl) (Nat.le_of_ble_eq_true rfl) dX6_hourBy_258 ?_
  refine ro_iret rfl dX6_hourBy_261 ?_
  have r7 : M255 107 = upd (M 107) (17 * lv + 15) (nI (sc_hr c + 1)) := by rw [e255, va_up_self]; rfl
  obtain ⟨h1, ⟨gk, h2, h3⟩, h4, h5, h6⟩ := hrow
  refine ⟨by rw [hcount], ⟨fun j hj => ?_, ⟨gk, fun k hk => ?_, h3⟩, fun j hj => ?_, ?_, ?_⟩, fun q hq => ?_, ho.tr (OnlyB.up e255 (by decide) (by decide)), rfl⟩
  · rw [r7, pk_un (by omega)]; exact h1 j hj
  · rw [r7, pk_un (by omega)]; exact h2 k hk
  · rw [r7, pk_un (by omega)]; exact h4 j hj
  · rw [r7, pk_us]; rfl
  · rw [r7, pk_un (by omega)]; exact h6
  · rw [r7, pk_un (by omega)]; exact hq0 q hq
theorem hb_186 {g : GT} {L : LL} {lv : Nat} {ln : LN} {b r : Nat} {c : SC} {M0 : MM} (hv : lv < 2) (ok : LnOK ln) (oc : ScOK (ln_n ln) b c) (hr : r ≤ 9) (hb : b < 2 ^ 30) {g0 : Nat → Nat} {m0 : Nat} {x4 : Int32} (h3d : 3 ≤ (dryN r (sc_dry c))) (hg64 : ∀ k, k < 5 → g0 k < 64) (hg0 : ∀ j, j < ln_n ln → g0 (sc_who c j) = kn1 ln r c j) (hal : (orB (fun _ => true) (kn1 ln r c) (ln_n ln)) < 64) (hw1 : ∀ j, j < ln_n ln → m0.testBit (sc_who c j) = !decide (kn1 ln r c j = sc_kn c j)) : ∀ (f i : Nat), i + f = ln_n ln → ∀ (M : MM) (m : Nat) (gk : Nat → Nat), RLn M ln → m < 2 ^ ln_n ln → (∀ j, j < ln_n ln → m.testBit (sc_who c j) = (m0.testBit (sc_who c j) || (decide (sc_who c j < i) && !decide (kn1 ln r c j = (orB (fun _ => true) (kn1 ln r c) (ln_n ln)))))) → (∀ k, k < 5 → M 107 (17 * lv + 5 + k) = nI (gk k) ∧ gk k < 64) → (∀ k, k < ln_n ln → (k < i → gk k = (orB (fun _ => true) (kn1 ln r c) (ln_n ln))) ∧ (¬ k < i → gk k = g0 k)) → (∀ j, j < 5 → M 107 (17 * lv + j) = nI (sc_who c j)) → (∀ j, j < 5 → M 107 (17 * lv + 10 + j) = oI (sc_vo c j)) → M 107 (17 * lv + 15) = nI (sc_hr c) → M 107 (17 * lv + 16) = nI (dryN r (sc_dry c)) → (∀ q, (q < 17 * lv ∨ 17 * lv + 17 ≤ q) → M 107 q = M0 107 q) → OnlyB 107 107 M0 M → JW g mX6_hourBy 2 (fun v M' L' => v = some (.int (nI (hourN ln r c))) ∧ ScR (M' 107) (17 * lv) (ln_n ln) (hourC ln r c) ∧ (∀ q, (q < 17 * lv ∨ 17 * lv + 17 ≤ q) → M' 107 q = M0 107 q) ∧ OnlyB 107 107 M0 M' ∧ L' = L) M L 186 [some (.ref (dq_A g 102)), some (.int (nI lv)), some (.int (nI r)), some (.int (nI (17 * lv))), some (.int x4), some (.int (nI m)), some (.int (nI (orB (fun _ => true) (kn1 ln r c) (ln_n ln)))), some (.int (nI i))] [] := by
  have a1 := ok.1
  intro f
  induction f with
  | zero =>
    intro i hi M m gk hL hm hmb hgk hg1 hr1 hr4 hr5 hr6 hq0 ho
    refine ro_iload dX6_hourBy_186 rfl ?_
    refine ro_aload_n dX6_hourBy_188 rfl rfl ?_
    refine gf_X6_houses  in_X6_hourBy_X6 lk_X6_hourBy_93 dX6_hourBy_189 ?_
    rw [hL.1]
    refine ro_icmp_ge 243 dX6_hourBy_192 (by decide) (fun b192 => ?_) (fun b192 => ?_)
    · have e : i = ln_n ln := by omega
      subst e
      have hk2 : ∀ j, j < ln_n ln → kn2 ln r c j = (orB (fun _ => true) (kn1 ln r c) (ln_n ln)) := fun j hj => by unfold kn2; rw [if_pos ⟨h3d, hj⟩]; exact or_all hj
      refine hb_243 hv ok oc hr hb hm ?_ ⟨hr1, ⟨gk, hgk, fun j hj => ?_⟩, hr4, hr5, hr6⟩ hq0 ho
      · rw [pop_low hm (by omega), ctB_perm oc]
        unfold hourN
        refine ctB_cong (fun j hj => ?_)
        rw [hmb j hj, decide_eq_true (oc.1 j hj), Bool.true_and, hk2 j hj, hw1 j hj]
        by_cases z1 : kn1 ln r c j = sc_kn c j
        · rw [z1]
          simp only [decide_true, Bool.not_true, Bool.false_or]
          by_cases z2 : sc_kn c j = (orB (fun _ => true) (kn1 ln r c) (ln_n ln))
          · rw [decide_eq_true z2, decide_eq_true z2.symm]
          · rw [decide_eq_false z2, decide_eq_false (fun y => z2 y.symm)]
        · have z3 : ¬ (orB (fun _ => true) (kn1 ln r c) (ln_n ln)) = sc_kn c j := by
            intro y
            apply z1
            have q1 := or_all (kn := kn1 ln r c) hj
            have q2 : ∃ z, kn1 ln r c j = sc_kn c j ||| z := by
              unfold kn1
              split
              · exact ⟨_, rfl⟩
              · exact ⟨0, (Nat.or_zero _).symm⟩
            obtain ⟨z, hz⟩ := q2
            rw [y, hz] at q1
            rw [hz]
            apply Nat.eq_of_testBit_eq
            intro t
            have q3 := congrArg (fun q => q.testBit t) q1
            simp only [Nat.testBit_or] at q3 ⊢
            cases ha : (sc_kn c j).testBit t <;> cases hb2 : z.testBit t <;> simp_all
          rw [decide_eq_false z1, decide_eq_false z3]
          rfl
      · show gk (sc_who c j) = kn2 ln r c j
        rw [(hg1 _ (oc.1 j hj)).1 (oc.1 j hj)]
        exact (hk2 j hj).symm
    · exact absurd (nI_le (by omega) (by omega)) b192
  | succ f ih =>
    intro i hi M m gk hL hm hmb hgk hg1 hr1 hr4 hr5 hr6 hq0 ho
    refine ro_iload dX6_hourBy_186 rfl ?_
    refine ro_aload_n dX6_hourBy_188 rfl rfl ?_
    refine gf_X6_houses  in_X6_hourBy_X6 lk_X6_hourBy_93 dX6_hourBy_189 ?_
    rw [hL.1]
    refine ro_icmp_ge 243 dX6_hourBy_192 (by decide) (fun b192 => ?_) (fun b192 => ?_)
    · exact absurd b192 (nI_ge (by omega) (by omega))
    · refine ro_iload dX6_hourBy_195 rfl ?_
      refine ro_aload_n dX6_hourBy_197 rfl rfl ?_
      refine gf_X6_now  in_X6_hourBy_X6 lk_X6_hourBy_22 dX6_hourBy_198 ?_
      refine ro_iload_n dX6_hourBy_201 rfl rfl ?_
      refine ro_iconst (v := 5) dX6_hourBy_202 (by decide) ?_
      refine ro_iadd dX6_hourBy_203 ?_
      refine ro_top (show _ = nI (17 * lv + 5) from nI_add (17 * lv) (5)) ?_
      refine ro_iload dX6_hourBy_204 rfl ?_
      refine ro_iadd dX6_hourBy_206 ?_
      refine ro_top (show _ = nI (17 * lv + 5 + i) from nI_add (17 * lv + 5) (i)) ?_
      refine ro_ai ar_107 rfl (by omega) dX6_hourBy_207 ?_
      rw [(hgk i (by omega)).1, (hg1 i (by omega)).2 (Nat.lt_irrefl i)]
      refine ro_iload dX6_hourBy_208 rfl ?_
      refine ro_icmp_ne 217 dX6_hourBy_210 (by decide) (fun b210 => ?_) (fun b210 => ?_)
      · replace b210 : ¬ g0 i = (orB (fun _ => true) (kn1 ln r c) (ln_n ln)) := fun z => b210 (by rw [z])
        refine ro_iconst (v := 1) dX6_hourBy_217 (by decide) ?_
        refine ro_iload dX6_hourBy_218 rfl ?_
        refine ro_ishl dX6_hourBy_220 ?_
        first
          | rw [sh_1 i (by omega)]
          | skip
        refine ro_ior dX6_hourBy_221 ?_
        refine ro_istore5 dX6_hourBy_222 (Nat.le_of_ble_eq_true rfl) rfl ?_
        refine ro_aload_n dX6_hourBy_224 rfl rfl ?_
        refine gf_X6_now  in_X6_hourBy_X6 lk_X6_hourBy_22 dX6_hourBy_225 ?_
        refine ro_iload_n dX6_hourBy_228 rfl rfl ?_
        refine ro_iconst (v := 5) dX6_hourBy_229 (by decide) ?_
        refine ro_iadd dX6_hourBy_230 ?_
        refine ro_top (show _ = nI (17 * lv + 5) from nI_add (17 * lv) (5)) ?_
        refine ro_iload dX6_hourBy_231 rfl ?_
        refine ro_iadd dX6_hourBy_233 ?_
        refine ro_top (show _ = nI (17 * lv + 5 + i) from nI_add (17 * lv + 5) (i)) ?_
        refine ro_iload dX6_hourBy_234 rfl ?_
        refine ro_as ar_107 rfl (by omega) dX6_hourBy_236 (fun M236 e236 => ?_)
        refine ro_iincP7 dX6_hourBy_237 (Nat.le_of_ble_eq_true rfl) rfl ?_
        refine ro_goto 186 dX6_hourBy_240 (by decide) ?_
        rw [nI_1]
        have hwi : i < 5 := by omega
        have r7 : M236 107 = upd (M 107) (17 * lv + 5 + i) (nI (orB (fun _ => true) (kn1 ln r c) (ln_n ln))) := by rw [e236, va_up_self]
        have hn1 : ∀ k, k < 5 → M236 107 (17 * lv + 5 + k) = nI (va_up gk i (orB (fun _ => true) (kn1 ln r c) (ln_n ln)) k) ∧ va_up gk i (orB (fun _ => true) (kn1 ln r c) (ln_n ln)) k < 64 := fun k hk => by
          rw [r7]
          unfold upd va_up
          by_cases z : k = i
          · rw [if_pos (by omega), if_pos z]; exact ⟨rfl, hal⟩
          · rw [if_neg (by omega), if_neg z]; exact hgk k hk
        have hn2 : ∀ k, k < ln_n ln → (k < i + 1 → va_up gk i (orB (fun _ => true) (kn1 ln r c) (ln_n ln)) k = (orB (fun _ => true) (kn1 ln r c) (ln_n ln))) ∧ (¬ k < i + 1 → va_up gk i (orB (fun _ => true) (kn1 ln r c) (ln_n ln)) k = g0 k) := fun k hk => by
          unfold va_up
          by_cases z : k = i
          · rw [if_pos z]; exact ⟨fun _ => rfl, fun y => absurd y (by omega)⟩
          · rw [if_neg z]; exact ⟨fun y => (hg1 k hk).1 (by omega), fun y => (hg1 k hk).2 (by omega)⟩
        have hun : ∀ q, q < 17 * lv + 5 ∨ 17 * lv + 10 ≤ q → M236 107 q = M 107 q := fun q hq => by rw [r7, pk_un (by omega)]
        first
          | (rw [show nI m ||| 0 = nI m from by rw [show (0 : Int32) = nI 0 from rfl, fa_or, Nat.or_zero]]
             refine ih (i + 1) (by omega) M236 m (va_up gk i (orB (fun _ => true) (kn1 ln r c) (ln_n ln))) (hL.keep (fun k _ => by rw [e236, va_up_ne _ _ (by decide)]) (fun q a b => by rw [e236, va_up_ne _ _ (by omega)])) hm (fun j hj => ?_) hn1 hn2 (fun j hj => by rw [hun _ (by omega)]; exact hr1 j hj) (fun j hj => by rw [hun _ (by omega)]; exact hr4 j hj) (by rw [hun _ (by omega)]; exact hr5) (by rw [hun _ (by omega)]; exact hr6) (fun q hq => by rw [hun _ (by omega)]; exact hq0 q hq) (ho.tr (OnlyB.up e236 (by decide) (by decide)))
             rw [hmb j hj]
             by_cases z : sc_who c j = i
             · have z2 : kn1 ln r c j = (orB (fun _ => true) (kn1 ln r c) (ln_n ln)) := by rw [← hg0 j hj, z]; exact b210
               rw [z2]; simp
             · have z2 : decide (sc_who c j < i + 1) = decide (sc_who c j < i) := decide_eq_decide.mpr (by omega)
               rw [z2])
          | (rw [fa_or]
             refine ih (i + 1) (by omega) M236 (m ||| 2 ^ i) (va_up gk i (orB (fun _ => true) (kn1 ln r c) (ln_n ln))) (hL.keep (fun k _ => by rw [e236, va_up_ne _ _ (by decide)]) (fun q a b => by rw [e236, va_up_ne _ _ (by omega)])) (Nat.or_lt_two_pow hm (Nat.pow_lt_pow_right (by decide) (by omega))) (fun j hj => ?_) hn1 hn2 (fun j hj => by rw [hun _ (by omega)]; exact hr1 j hj) (fun j hj => by rw [hun _ (by omega)]; exact hr4 j hj) (by rw [hun _ (by omega)]; exact hr5) (by rw [hun _ (by omega)]; exact hr6) (fun q hq => by rw [hun _ (by omega)]; exact hq0 q hq) (ho.tr (OnlyB.up e236 (by decide) (by decide)))
             rw [Nat.testBit_or, hmb j hj, Nat.testBit_two_pow]
             by_cases z : sc_who c j = i
             · have z2 : ¬ kn1 ln r c j = (orB (fun _ => true) (kn1 ln r c) (ln_n ln)) := by rw [← hg0 j hj, z]; exact b210
               rw [decide_eq_true z.symm, decide_eq_true (show sc_who c j < i + 1 by omega), decide_eq_false z2]; simp
             · have z2 : decide (sc_who c j < i + 1) = decide (sc_who c j < i) := decide_eq_decide.mpr (by omega)
               rw [z2, decide_eq_false (show ¬ i = sc_who c j from fun y => z y.symm), Bool.or_false])
      · replace b210 : g0 i = (orB (fun _ => true) (kn1 ln r c) (ln_n ln)) := (nI_eq (by have := hg64 i (by omega); omega) (by omega)).mp b210
        refine ro_iconst (v := 0) dX6_hourBy_213 (by decide) ?_
        refine ro_goto 221 dX6_hourBy_214 (by decide) ?_
        first
          | rw [sh_1 i (by omega)]
          | skip
        refine ro_ior dX6_hourBy_221 ?_
        refine ro_istore5 dX6_hourBy_222 (Nat.le_of_ble_eq_true rfl) rfl ?_
        refine ro_aload_n dX6_hourBy_224 rfl rfl ?_
        refine gf_X6_now  in_X6_hourBy_X6 lk_X6_hourBy_22 dX6_hourBy_225 ?_
        refine ro_iload_n dX6_hourBy_228 rfl rfl ?_
        refine ro_iconst (v := 5) dX6_hourBy_229 (by decide) ?_
        refine ro_iadd dX6_hourBy_230 ?_
        refine ro_top (show _ = nI (17 * lv + 5) from nI_add (17 * lv) (5)) ?_
        refine ro_iload dX6_hourBy_231 rfl ?_
        refine ro_iadd dX6_hourBy_233 ?_
        refine ro_top (show _ = nI (17 * lv + 5 + i) from nI_add (17 * lv + 5) (i)) ?_
        refine ro_iload dX6_hourBy_234 rfl ?_
        refine ro_as ar_107 rfl (by omega) dX6_hourBy_236 (fun M236 e236 => ?_)
        refine ro_iincP7 dX6_hourBy_237 (Nat.le_of_ble_eq_true rfl) rfl ?_
        refine ro_goto 186 dX6_hourBy_240 (by decide) ?_
        rw [nI_1]
        have hwi : i < 5 := by omega
        have r7 : M236 107 = upd (M 107) (17 * lv + 5 + i) (nI (orB (fun _ => true) (kn1 ln r c) (ln_n ln))) := by rw [e236, va_up_self]
        have hn1 : ∀ k, k < 5 → M236 107 (17 * lv + 5 + k) = nI (va_up gk i (orB (fun _ => true) (kn1 ln r c) (ln_n ln)) k) ∧ va_up gk i (orB (fun _ => true) (kn1 ln r c) (ln_n ln)) k < 64 := fun k hk => by
          rw [r7]
          unfold upd va_up
          by_cases z : k = i
          · rw [if_pos (by omega), if_pos z]; exact ⟨rfl, hal⟩
          · rw [if_neg (by omega), if_neg z]; exact hgk k hk
        have hn2 : ∀ k, k < ln_n ln → (k < i + 1 → va_up gk i (orB (fun _ => true) (kn1 ln r c) (ln_n ln)) k = (orB (fun _ => true) (kn1 ln r c) (ln_n ln))) ∧ (¬ k < i + 1 → va_up gk i (orB (fun _ => true) (kn1 ln r c) (ln_n ln)) k = g0 k) := fun k hk => by
          unfold va_up
          by_cases z : k = i
          · rw [if_pos z]; exact ⟨fun _ => rfl, fun y => absurd y (by omega)⟩
          · rw [if_neg z]; exact ⟨fun y => (hg1 k hk).1 (by omega), fun y => (hg1 k hk).2 (by omega)⟩
        have hun : ∀ q, q < 17 * lv + 5 ∨ 17 * lv + 10 ≤ q → M236 107 q = M 107 q := fun q hq => by rw [r7, pk_un (by omega)]
        first
          | (rw [show nI m ||| 0 = nI m from by rw [show (0 : Int32) = nI 0 from rfl, fa_or, Nat.or_zero]]
             refine ih (i + 1) (by omega) M236 m (va_up gk i (orB (fun _ => true) (kn1 ln r c) (ln_n ln))) (hL.keep (fun k _ => by rw [e236, va_up_ne _ _ (by decide)]) (fun q a b => by rw [e236, va_up_ne _ _ (by omega)])) hm (fun j hj => ?_) hn1 hn2 (fun j hj => by rw [hun _ (by omega)]; exact hr1 j hj) (fun j hj => by rw [hun _ (by omega)]; exact hr4 j hj) (by rw [hun _ (by omega)]; exact hr5) (by rw [hun _ (by omega)]; exact hr6) (fun q hq => by rw [hun _ (by omega)]; exact hq0 q hq) (ho.tr (OnlyB.up e236 (by decide) (by decide)))
             rw [hmb j hj]
             by_cases z : sc_who c j = i
             · have z2 : kn1 ln r c j = (orB (fun _ => true) (kn1 ln r c) (ln_n ln)) := by rw [← hg0 j hj, z]; exact b210
               rw [z2]; simp
             · have z2 : decide (sc_who c j < i + 1) = decide (sc_who c j < i) := decide_eq_decide.mpr (by omega)
               rw [z2])
          | (rw [fa_or]
             refine ih (i + 1) (by omega) M236 (m ||| 2 ^ i) (va_up gk i (orB (fun _ => true) (kn1 ln r c) (ln_n ln))) (hL.keep (fun k _ => by rw [e236, va_up_ne _ _ (by decide)]) (fun q a b => by rw [e236, va_up_ne _ _ (by omega)])) (Nat.or_lt_two_pow hm (Nat.pow_lt_pow_right (by decide) (by omega))) (fun j hj => ?_) hn1 hn2 (fun j hj => by rw [hun _ (by omega)]; exact hr1 j hj) (fun j hj => by rw [hun _ (by omega)]; exact hr4 j hj) (by rw [hun _ (by omega)]; exact hr5) (by rw [hun _ (by omega)]; exact hr6) (fun q hq => by rw [hun _ (by omega)]; exact hq0 q hq) (ho.tr (OnlyB.up e236 (by decide) (by decide)))
             rw [Nat.testBit_or, hmb j hj, Nat.testBit_two_pow]
             by_cases z : sc_who c j = i
             · have z2 : ¬ kn1 ln r c j = (orB (fun _ => true) (kn1 ln r c) (ln_n ln)) := by rw [← hg0 j hj, z]; exact b210
               rw [decide_eq_true z.symm, decide_eq_true (show sc_who c j < i + 1 by omega), decide_eq_false z2]; simp
             · have z2 : decide (sc_who c j < i + 1) = decide (sc_who c j < i) := decide_eq_decide.mpr (by omega)
               rw [z2, decide_eq_false (show ¬ i = sc_who c j from fun y => z y.symm), Bool.or_false])
theorem hb_121 {g : GT} {M : MM} {L : LL} {lv : Nat} {ln : LN} {b r : Nat} {c : SC} {M0 : MM} (hv : lv < 2) (ok : LnOK ln) (oc : ScOK (ln_n ln) b c) (hr : r ≤ 9) (hb : b < 2 ^ 30) {m : Nat} {x4 : Int32} {x6 x7 : Option Value} (hL : RLn M ln) (hm : m < 2 ^ ln_n ln) (hmb : ∀ j, j < ln_n ln → m.testBit (sc_who c j) = !decide (kn1 ln r c j = sc_kn c j)) (hS : ScR (M 107) (17 * lv) (ln_n ln) (sc_setK c (kn1 ln r c))) (hq0 : ∀ q, (q < 17 * lv ∨ 17 * lv + 17 ≤ q) → M 107 q = M0 107 q) (ho : OnlyB 107 107 M0 M) : JW g mX6_hourBy 2 (fun v M' L' => v = some (.int (nI (hourN ln r c))) ∧ ScR (M' 107) (17 * lv) (ln_n ln) (hourC ln r c) ∧ (∀ q, (q < 17 * lv ∨ 17 * lv + 17 ≤ q) → M' 107 q = M0 107 q) ∧ OnlyB 107 107 M0 M' ∧ L' = L) M L 121 [some (.ref (dq_A g 102)), some (.int (nI lv)), some (.int (nI r)), some (.int (nI (17 * lv))), some (.int x4), some (.int (nI m)), x6, x7] [] := by
  have a1 := ok.1
  have hdy := oc.2.2.2.2.1
  refine ro_aload_n dX6_hourBy_121 rfl rfl ?_
  refine gf_X6_now  in_X6_hourBy_X6 lk_X6_hourBy_22 dX6_hourBy_122 ?_
  refine ro_iload_n dX6_hourBy_125 rfl rfl ?_
  refine ro_bipush (v := 16) dX6_hourBy_126 (by decide) ?_
  refine ro_iadd dX6_hourBy_128 ?_
  refine ro_top (show _ = nI (17 * lv + 16) from nI_add (17 * lv) (16)) ?_
  refine ro_iload_n dX6_hourBy_129 rfl rfl ?_
  refine ro_if_le 137 dX6_hourBy_130 (by decide) (fun b130 => ?_) (fun b130 => ?_)
  · rw [nI_le0 (by omega)] at b130
    refine ro_aload_n dX6_hourBy_137 rfl rfl ?_
    refine gf_X6_now  in_X6_hourBy_X6 lk_X6_hourBy_22 dX6_hourBy_138 ?_
    refine ro_iload_n dX6_hourBy_141 rfl rfl ?_
    refine ro_bipush (v := 16) dX6_hourBy_142 (by decide) ?_
    refine ro_iadd dX6_hourBy_144 ?_
    refine ro_top (show _ = nI (17 * lv + 16) from nI_add (17 * lv) (16)) ?_
    refine ro_ai ar_107 rfl (by omega) dX6_hourBy_145 ?_
    rw [show M 107 (17 * lv + 16) = nI (sc_dry c) from hS.2.2.2.2]
    refine ro_bipush (v := 9) dX6_hourBy_146 (by decide) ?_
    refine ro_icmp_ge 165 dX6_hourBy_148 (by decide) (fun b148 => ?_) (fun b148 => ?_)
    · replace b148 : 9 ≤ sc_dry c := (nI_leI (a := 9) (by decide) (by omega)).mp b148
      refine ro_bipush (v := 9) dX6_hourBy_165 (by decide) ?_
      first
        | refine ro_top (show (0 : Int32) = nI (dryN r (sc_dry c)) from by rw [show (dryN r (sc_dry c)) = 0 from if_neg b130]; rfl) ?_
        | refine ro_top (show nI (sc_dry c + 1) = nI (dryN r (sc_dry c)) from by rw [show (dryN r (sc_dry c)) = sc_dry c + 1 from (if_pos b130).trans (if_neg (by omega))]) ?_
        | refine ro_top (show (9 : Int32) = nI (dryN r (sc_dry c)) from by rw [show (dryN r (sc_dry c)) = 9 from (if_pos b130).trans (if_pos (by omega))]; rfl) ?_
      refine ro_as ar_107 rfl (by omega) dX6_hourBy_167 (fun M167 e167 => ?_)
      obtain ⟨h1, ⟨gk, h2, h3⟩, h4, h5, h6⟩ := hS
      have r7 : M167 107 = upd (M 107) (17 * lv + 16) (nI (dryN r (sc_dry c))) := by rw [e167, va_up_self]
      have hun : ∀ q, q ≠ 17 * lv + 16 → M167 107 q = M 107 q := fun q hq => by rw [r7, pk_un hq]
      have ho167 : OnlyB 107 107 M0 M167 := ho.tr (OnlyB.up e167 (by decide) (by decide))
      have hL167 : RLn M167 ln := hL.keep (fun k _ => by rw [e167, va_up_ne _ _ (by decide)]) (fun q a b => by rw [e167, va_up_ne _ _ (by omega)])
      have g167 : ∀ k, k < 5 → M167 107 (17 * lv + 5 + k) = nI (gk k) ∧ gk k < 64 := fun k hk => by rw [hun _ (by omega)]; exact h2 k hk
      have d167 : M167 107 (17 * lv + 16) = nI (dryN r (sc_dry c)) := by rw [r7, pk_us]
      have q167 : ∀ q, (q < 17 * lv ∨ 17 * lv + 17 ≤ q) → M167 107 q = M0 107 q := fun q hq => by rw [hun _ (by omega)]; exact hq0 q hq
      have hd9 := dryN_le r (sc_dry c)
      refine ro_aload_n dX6_hourBy_168 rfl rfl ?_
      refine ro_iload_n dX6_hourBy_169 rfl rfl ?_
      refine ro_callV1 ok_X6_isStrayed (cr_strayed hv d167 hd9) ce_X6 rfl rfl gX6_hourBy_X6_isStrayed (Nat.le_of_ble_eq_true rfl) (Nat.le_of_ble_eq_true rfl) dX6_hourBy_170 ?_
      refine ro_if_eq 243 dX6_hourBy_173 (by decide) (fun b173 => ?_) (fun b173 => ?_)
      · rw [bI_eq0, decide_eq_false_iff_not] at b173
        refine hb_243 hv ok oc hr hb hm ?_ ⟨fun j hj => by rw [hun _ (by omega)]; exact h1 j hj, ⟨gk, g167, fun j hj => ?_⟩, fun j hj => by rw [hun _ (by omega)]; exact h4 j hj, by rw [hun _ (by omega)]; exact h5, d167⟩ q167 ho167
        · rw [pop_low hm (by omega), ctB_perm oc]
          unfold hourN
          refine ctB_cong (fun j hj => ?_)
          rw [hmb j hj, show kn2 ln r c j = kn1 ln r c j from if_neg (fun z => b173 z.1)]
        · exact (h3 j hj).trans (if_neg (fun z => b173 z.1)).symm
      · rw [bI_ne0, decide_eq_true_eq] at b173
        refine ro_aload_n dX6_hourBy_176 rfl rfl ?_
        refine ro_iload_n dX6_hourBy_177 rfl rfl ?_
        refine ro_callV1 ok_X6_knownOn (cr_knownOn hv hL167 ok g167) ce_X6 rfl rfl gX6_hourBy_X6_knownOn (Nat.le_of_ble_eq_true rfl) (Nat.le_of_ble_eq_true rfl) dX6_hourBy_178 ?_
        refine ro_istore6 dX6_hourBy_181 (Nat.le_of_ble_eq_true rfl) rfl ?_
        refine ro_iconst (v := 0) dX6_hourBy_183 (by decide) ?_
        refine ro_istore7 dX6_hourBy_184 (Nat.le_of_ble_eq_true rfl) rfl ?_
        have hop : orB (fun _ => true) gk (ln_n ln) = (orB (fun _ => true) (kn1 ln r c) (ln_n ln)) := orB_perm oc h3
        rw [hop]
        refine hb_186 (g0 := gk) (m0 := m) hv ok oc hr hb b173 (fun k hk => (h2 k hk).2) h3 (orB_lt (w := 6) (fun k _ => kn1_lt ok oc k)) hmb (ln_n ln) 0 (by omega) M167 m gk hL167 hm (fun j hj => by rw [decide_eq_false (Nat.not_lt_zero _), Bool.false_and, Bool.or_false]) g167 (fun k hk => ⟨fun z => absurd z (Nat.not_lt_zero k), fun _ => rfl⟩) (fun j hj => by rw [hun _ (by omega)]; exact h1 j hj) (fun j hj => by rw [hun _ (by omega)]; exact h4 j hj) (by rw [hun _ (by omega)]; exact h5) d167 q167 ho167
    · replace b148 : ¬ 9 ≤ sc_dry c := fun z => b148 ((nI_leI (a := 9) (by decide) (by omega)).mpr z)
      refine ro_aload_n dX6_hourBy_151 rfl rfl ?_
      refine gf_X6_now  in_X6_hourBy_X6 lk_X6_hourBy_22 dX6_hourBy_152 ?_
      refine ro_iload_n dX6_hourBy_155 rfl rfl ?_
      refine ro_bipush (v := 16) dX6_hourBy_156 (by decide) ?_
      refine ro_iadd dX6_hourBy_158 ?_
      refine ro_top (show _ = nI (17 * lv + 16) from nI_add (17 * lv) (16)) ?_
      refine ro_ai ar_107 rfl (by omega) dX6_hourBy_159 ?_
      rw [show M 107 (17 * lv + 16) = nI (sc_dry c) from hS.2.2.2.2]
      refine ro_iconst (v := 1) dX6_hourBy_160 (by decide) ?_
      refine ro_iadd dX6_hourBy_161 ?_
      rw [nI_1]
      refine ro_goto 167 dX6_hourBy_162 (by decide) ?_
      first
        | refine ro_top (show (0 : Int32) = nI (dryN r (sc_dry c)) from by rw [show (dryN r (sc_dry c)) = 0 from if_neg b130]; rfl) ?_
        | refine ro_top (show nI (sc_dry c + 1) = nI (dryN r (sc_dry c)) from by rw [show (dryN r (sc_dry c)) = sc_dry c + 1 from (if_pos b130).trans (if_neg (by omega))]) ?_
        | refine ro_top (show (9 : Int32) = nI (dryN r (sc_dry c)) from by rw [show (dryN r (sc_dry c)) = 9 from (if_pos b130).trans (if_pos (by omega))]; rfl) ?_
      refine ro_as ar_107 rfl (by omega) dX6_hourBy_167 (fun M167 e167 => ?_)
      obtain ⟨h1, ⟨gk, h2, h3⟩, h4, h5, h6⟩ := hS
      have r7 : M167 107 = upd (M 107) (17 * lv + 16) (nI (dryN r (sc_dry c))) := by rw [e167, va_up_self]
      have hun : ∀ q, q ≠ 17 * lv + 16 → M167 107 q = M 107 q := fun q hq => by rw [r7, pk_un hq]
      have ho167 : OnlyB 107 107 M0 M167 := ho.tr (OnlyB.up e167 (by decide) (by decide))
      have hL167 : RLn M167 ln := hL.keep (fun k _ => by rw [e167, va_up_ne _ _ (by decide)]) (fun q a b => by rw [e167, va_up_ne _ _ (by omega)])
      have g167 : ∀ k, k < 5 → M167 107 (17 * lv + 5 + k) = nI (gk k) ∧ gk k < 64 := fun k hk => by rw [hun _ (by omega)]; exact h2 k hk
      have d167 : M167 107 (17 * lv + 16) = nI (dryN r (sc_dry c)) := by rw [r7, pk_us]
      have q167 : ∀ q, (q < 17 * lv ∨ 17 * lv + 17 ≤ q) → M167 107 q = M0 107 q := fun q hq => by rw [hun _ (by omega)]; exact hq0 q hq
      have hd9 := dryN_le r (sc_dry c)
      refine ro_aload_n dX6_hourBy_168 rfl rfl ?_
      refine ro_iload_n dX6_hourBy_169 rfl rfl ?_
      refine ro_callV1 ok_X6_isStrayed (cr_strayed hv d167 hd9) ce_X6 rfl rfl gX6_hourBy_X6_isStrayed (Nat.le_of_ble_eq_true rfl) (Nat.le_of_ble_eq_true rfl) dX6_hourBy_170 ?_
      refine ro_if_eq 243 dX6_hourBy_173 (by decide) (fun b173 => ?_) (fun b173 => ?_)
      · rw [bI_eq0, decide_eq_false_iff_not] at b173
        refine hb_243 hv ok oc hr hb hm ?_ ⟨fun j hj => by rw [hun _ (by omega)]; exact h1 j hj, ⟨gk, g167, fun j hj => ?_⟩, fun j hj => by rw [hun _ (by omega)]; exact h4 j hj, by rw [hun _ (by omega)]; exact h5, d167⟩ q167 ho167
        · rw [pop_low hm (by omega), ctB_perm oc]
          unfold hourN
          refine ctB_cong (fun j hj => ?_)
          rw [hmb j hj, show kn2 ln r c j = kn1 ln r c j from if_neg (fun z => b173 z.1)]
        · exact (h3 j hj).trans (if_neg (fun z => b173 z.1)).symm
      · rw [bI_ne0, decide_eq_true_eq] at b173
        refine ro_aload_n dX6_hourBy_176 rfl rfl ?_
        refine ro_iload_n dX6_hourBy_177 rfl rfl ?_
        refine ro_callV1 ok_X6_knownOn (cr_knownOn hv hL167 ok g167) ce_X6 rfl rfl gX6_hourBy_X6_knownOn (Nat.le_of_ble_eq_true rfl) (Nat.le_of_ble_eq_true rfl) dX6_hourBy_178 ?_
        refine ro_istore6 dX6_hourBy_181 (Nat.le_of_ble_eq_true rfl) rfl ?_
        refine ro_iconst (v := 0) dX6_hourBy_183 (by decide) ?_
        refine ro_istore7 dX6_hourBy_184 (Nat.le_of_ble_eq_true rfl) rfl ?_
        have hop : orB (fun _ => true) gk (ln_n ln) = (orB (fun _ => true) (kn1 ln r c) (ln_n ln)) := orB_perm oc h3
        rw [hop]
        refine hb_186 (g0 := gk) (m0 := m) hv ok oc hr hb b173 (fun k hk => (h2 k hk).2) h3 (orB_lt (w := 6) (fun k _ => kn1_lt ok oc k)) hmb (ln_n ln) 0 (by omega) M167 m gk hL167 hm (fun j hj => by rw [decide_eq_false (Nat.not_lt_zero _), Bool.false_and, Bool.or_false]) g167 (fun k hk => ⟨fun z => absurd z (Nat.not_lt_zero k), fun _ => rfl⟩) (fun j hj => by rw [hun _ (by omega)]; exact h1 j hj) (fun j hj => by rw [hun _ (by omega)]; exact h4 j hj) (by rw [hun _ (by omega)]; exact h5) d167 q167 ho167
  · rw [nI_le0 (by omega)] at b130
    refine ro_iconst (v := 0) dX6_hourBy_133 (by decide) ?_
    refine ro_goto 167 dX6_hourBy_134 (by decide) ?_
    first
      | refine ro_top (show (0 : Int32) = nI (dryN r (sc_dry c)) from by rw [show (dryN r (sc_dry c)) = 0 from if_neg b130]; rfl) ?_
      | refine ro_top (show nI (sc_dry c + 1) = nI (dryN r (sc_dry c)) from by rw [show (dryN r (sc_dry c)) = sc_dry c + 1 from (if_pos b130).trans (if_neg (by omega))]) ?_
      | refine ro_top (show (9 : Int32) = nI (dryN r (sc_dry c)) from by rw [show (dryN r (sc_dry c)) = 9 from (if_pos b130).trans (if_pos (by omega))]; rfl) ?_
    refine ro_as ar_107 rfl (by omega) dX6_hourBy_167 (fun M167 e167 => ?_)
    obtain ⟨h1, ⟨gk, h2, h3⟩, h4, h5, h6⟩ := hS
    have r7 : M167 107 = upd (M 107) (17 * lv + 16) (nI (dryN r (sc_dry c))) := by rw [e167, va_up_self]
    have hun : ∀ q, q ≠ 17 * lv + 16 → M167 107 q = M 107 q := fun q hq => by rw [r7, pk_un hq]
    have ho167 : OnlyB 107 107 M0 M167 := ho.tr (OnlyB.up e167 (by decide) (by decide))
    have hL167 : RLn M167 ln := hL.keep (fun k _ => by rw [e167, va_up_ne _ _ (by decide)]) (fun q a b => by rw [e167, va_up_ne _ _ (by omega)])
    have g167 : ∀ k, k < 5 → M167 107 (17 * lv + 5 + k) = nI (gk k) ∧ gk k < 64 := fun k hk => by rw [hun _ (by omega)]; exact h2 k hk
    have d167 : M167 107 (17 * lv + 16) = nI (dryN r (sc_dry c)) := by rw [r7, pk_us]
    have q167 : ∀ q, (q < 17 * lv ∨ 17 * lv + 17 ≤ q) → M167 107 q = M0 107 q := fun q hq => by rw [hun _ (by omega)]; exact hq0 q hq
    have hd9 := dryN_le r (sc_dry c)
    refine ro_aload_n dX6_hourBy_168 rfl rfl ?_
    refine ro_iload_n dX6_hourBy_169 rfl rfl ?_
    refine ro_callV1 ok_X6_isStrayed (cr_strayed hv d167 hd9) ce_X6 rfl rfl gX6_hourBy_X6_isStrayed (Nat.le_of_ble_eq_true rfl) (Nat.le_of_ble_eq_true rfl) dX6_hourBy_170 ?_
    refine ro_if_eq 243 dX6_hourBy_173 (by decide) (fun b173 => ?_) (fun b173 => ?_)
    · rw [bI_eq0, decide_eq_false_iff_not] at b173
      refine hb_243 hv ok oc hr hb hm ?_ ⟨fun j hj => by rw [hun _ (by omega)]; exact h1 j hj, ⟨gk, g167, fun j hj => ?_⟩, fun j hj => by rw [hun _ (by omega)]; exact h4 j hj, by rw [hun _ (by omega)]; exact h5, d167⟩ q167 ho167
      · rw [pop_low hm (by omega), ctB_perm oc]
        unfold hourN
        refine ctB_cong (fun j hj => ?_)
        rw [hmb j hj, show kn2 ln r c j = kn1 ln r c j from if_neg (fun z => b173 z.1)]
      · exact (h3 j hj).trans (if_neg (fun z => b173 z.1)).symm
    · rw [bI_ne0, decide_eq_true_eq] at b173
      refine ro_aload_n dX6_hourBy_176 rfl rfl ?_
      refine ro_iload_n dX6_hourBy_177 rfl rfl ?_
      refine ro_callV1 ok_X6_knownOn (cr_knownOn hv hL167 ok g167) ce_X6 rfl rfl gX6_hourBy_X6_knownOn (Nat.le_of_ble_eq_true rfl) (Nat.le_of_ble_eq_true rfl) dX6_hourBy_178 ?_
      refine ro_istore6 dX6_hourBy_181 (Nat.le_of_ble_eq_true rfl) rfl ?_
      refine ro_iconst (v := 0) dX6_hourBy_183 (by decide) ?_
      refine ro_istore7 dX6_hourBy_184 (Nat.le_of_ble_eq_true rfl) rfl ?_
      have hop : orB (fun _ => true) gk (ln_n ln) = (orB (fun _ => true) (kn1 ln r c) (ln_n ln)) := orB_perm oc h3
      rw [hop]
      refine hb_186 (g0 := gk) (m0 := m) hv ok oc hr hb b173 (fun k hk => (h2 k hk).2) h3 (orB_lt (w := 6) (fun k _ => kn1_lt ok oc k)) hmb (ln_n ln) 0 (by omega) M167 m gk hL167 hm (fun j hj => by rw [decide_eq_false (Nat.not_lt_zero _), Bool.false_and, Bool.or_false]) g167 (fun k hk => ⟨fun z => absurd z (Nat.not_lt_zero k), fun _ => rfl⟩) (fun j hj => by rw [hun _ (by omega)]; exact h1 j hj) (fun j hj => by rw [hun _ (by omega)]; exact h4 j hj) (by rw [hun _ (by omega)]; exact h5) d167 q167 ho167
theorem hb_18 {g : GT} {L : LL} {lv : Nat} {ln : LN} {b r : Nat} {c : SC} {M0 : MM} (hv : lv < 2) (ok : LnOK ln) (oc : ScOK (ln_n ln) b c) (hr : r ≤ 9) (hb : b < 2 ^ 30) : ∀ (f i : Nat), i + f = ln_n ln → ∀ (M : MM) (m : Nat), RLn M ln → m < 2 ^ ln_n ln → (∀ j, j < ln_n ln → m.testBit (sc_who c j) = (decide (j < i) && !decide (kn1 ln r c j = sc_kn c j))) → ScR (M 107) (17 * lv) (ln_n ln) (sc_setK c (fun j => if j < i then kn1 ln r c j else sc_kn c j)) → (∀ q, (q < 17 * lv ∨ 17 * lv + 17 ≤ q) → M 107 q = M0 107 q) → OnlyB 107 107 M0 M → ∀ x7 : Option Value, JW g mX6_hourBy 2 (fun v M' L' => v = some (.int (nI (hourN ln r c))) ∧ ScR (M' 107) (17 * lv) (ln_n ln) (hourC ln r c) ∧ (∀ q, (q < 17 * lv ∨ 17 * lv + 17 ≤ q) → M' 107 q = M0 107 q) ∧ OnlyB 107 107 M0 M' ∧ L' = L) M L 18 [some (.ref (dq_A g 102)), some (.int (nI lv)), some (.int (nI r)), some (.int (nI (17 * lv))), some (.int (if ln_s ln = 0 then (-9 : Int32) else nI (sc_hr c % ln_s ln))), some (.int (nI m)), some (.int (nI i)), x7] [] := by
  have a1 := ok.1
  intro f
  induction f with
  | zero =>
    intro i hi M m hL hm hmb hS hq0 ho x7
    refine ro_iload dX6_hourBy_18 rfl ?_
    refine ro_aload_n dX6_hourBy_20 rfl rfl ?_
    refine gf_X6_houses  in_X6_hourBy_X6 lk_X6_hourBy_93 dX6_hourBy_21 ?_
    rw [hL.1]
    refine ro_icmp_ge 121 dX6_hourBy_24 (by decide) (fun b24 => ?_) (fun b24 => ?_)
    · have e : i = ln_n ln := by omega
      subst e
      refine hb_121 hv ok oc hr hb hL hm (fun j hj => by rw [hmb j hj, decide_eq_true hj, Bool.true_and]) ⟨hS.1, ?_, hS.2.2.1, hS.2.2.2.1, hS.2.2.2.2⟩ hq0 ho
      obtain ⟨gk, h2, h3⟩ := hS.2.1
      exact ⟨gk, h2, fun j hj => (h3 j hj).trans (if_pos hj)⟩
    · exact absurd (nI_le (by omega) (by omega)) b24
  | succ f ih =>
    intro i hi M m hL hm hmb hS hq0 ho x7
    have hin : i < ln_n ln := by omega
    have hwi := oc.1 i hin
    have oci : ScOK (ln_n ln) b (sc_setK c (fun j => if j < i then kn1 ln r c j else sc_kn c j)) := ⟨oc.1, oc.2.1, fun j => by show (if j < i then kn1 ln r c j else sc_kn c j) < 64; split; exact kn1_lt ok oc j; exact oc.2.2.1 j, oc.2.2.2.1, oc.2.2.2.2.1, oc.2.2.2.2.2⟩
    refine ro_iload dX6_hourBy_18 rfl ?_
    refine ro_aload_n dX6_hourBy_20 rfl rfl ?_
    refine gf_X6_houses  in_X6_hourBy_X6 lk_X6_hourBy_93 dX6_hourBy_21 ?_
    rw [hL.1]
    refine ro_icmp_ge 121 dX6_hourBy_24 (by decide) (fun b24 => ?_) (fun b24 => ?_)
    · exact absurd b24 (nI_ge (by omega) (by omega))
    · refine ro_aload_n dX6_hourBy_27 rfl rfl ?_
      refine gf_X6_now  in_X6_hourBy_X6 lk_X6_hourBy_22 dX6_hourBy_28 ?_
      refine ro_iload_n dX6_hourBy_31 rfl rfl ?_
      refine ro_iload dX6_hourBy_32 rfl ?_
      refine ro_iadd dX6_hourBy_34 ?_
      refine ro_top (show _ = nI (17 * lv + i) from nI_add (17 * lv) (i)) ?_
      refine ro_ai ar_107 rfl (by omega) dX6_hourBy_35 ?_
      rw [show M 107 (17 * lv + i) = nI (sc_who c i) from hS.1 i (by omega)]
      refine ro_istore7 dX6_hourBy_36 (Nat.le_of_ble_eq_true rfl) rfl ?_
      refine ro_aload_n dX6_hourBy_38 rfl rfl ?_
      refine ro_iload_n dX6_hourBy_39 rfl rfl ?_
      refine ro_iload dX6_hourBy_40 rfl ?_
      refine ro_iload dX6_hourBy_42 rfl ?_
      refine ro_iload_n dX6_hourBy_44 rfl rfl ?_
      refine ro_callV4 ok_X6_hears (cr_hears (c := sc_setK c (fun j => if j < i then kn1 ln r c j else sc_kn c j)) hv hL ok hS oci hin hr) ce_X6 rfl rfl gX6_hourBy_X6_hears (Nat.le_of_ble_eq_true rfl) (Nat.le_of_ble_eq_true rfl) dX6_hourBy_45 ?_
      refine ro_if_eq 115 dX6_hourBy_48 (by decide) (fun b48 => ?_) (fun b48 => ?_)
      · rw [bI_eq0] at b48
        replace b48 : hearB ln c r i = false := b48
        refine ro_iincP6 dX6_hourBy_115 (Nat.le_of_ble_eq_true rfl) rfl ?_
        refine ro_goto 18 dX6_hourBy_118 (by decide) ?_
        rw [nI_1]
        have hki : kn1 ln r c i = sc_kn c i := if_neg (fun z => by rw [b48] at z; exact absurd z.2 (by decide))
        refine ih (i + 1) (by omega) M m hL hm (fun j hj => ?_) ⟨hS.1, ?_, hS.2.2.1, hS.2.2.2.1, hS.2.2.2.2⟩ hq0 ho _
        · rw [hmb j hj]
          by_cases z : j = i
          · subst z; rw [hki]; simp
          · rw [show decide (j < i + 1) = decide (j < i) from decide_eq_decide.mpr (by omega)]
        · obtain ⟨gk, h2, h3⟩ := hS.2.1
          refine ⟨gk, h2, fun j hj => (h3 j hj).trans ?_⟩
          show (if j < i then kn1 ln r c j else sc_kn c j) = (if j < i + 1 then kn1 ln r c j else sc_kn c j)
          by_cases z : j = i
          · subst z; rw [if_neg (Nat.lt_irrefl j), if_pos (Nat.lt_succ_self j)]; exact hki.symm
          · by_cases z2 : j < i
            · rw [if_pos z2, if_pos (by omega)]
            · rw [if_neg z2, if_neg (by omega)]
      · rw [bI_ne0] at b48
        replace b48 : hearB ln c r i = true := b48
        have hs0 : ¬ ln_s ln = 0 := by intro z; simp [hearB, z] at b48
        rw [if_neg hs0]
        have hsk : sayK ln c < ln_s ln := Nat.mod_lt _ (by omega)
        have hs8 := ok.2.1
        have hp := ok.2.2.2.2.1 _ hsk
        have hsy := hL.2.2.2.2.1 _ hsk
        have ht6 := hp.2.1
        have ht64 : 2 ^ (ln_thing ln (sayK ln c)) < 2 ^ 6 := Nat.pow_lt_pow_right (by decide) ht6
        obtain ⟨h1, ⟨gk, h2, h3⟩, h4, h5, h6⟩ := id hS
        have hgi : gk (sc_who c i) = sc_kn c i := (h3 i hin).trans (if_neg (Nat.lt_irrefl i))
        refine ro_aload_n dX6_hourBy_51 rfl rfl ?_
        refine gf_X6_now  in_X6_hourBy_X6 lk_X6_hourBy_22 dX6_hourBy_52 ?_
        refine ro_iload_n dX6_hourBy_55 rfl rfl ?_
        refine ro_iconst (v := 5) dX6_hourBy_56 (by decide) ?_
        
        refine ro_iadd dX6_hourBy_57 ?_
        refine ro_top (show _ = nI (17 * lv + 5) from nI_add (17 * lv) (5)) ?_
        refine ro_iload dX6_hourBy_58 rfl ?_
        
        refine ro_iadd dX6_hourBy_60 ?_
        refine ro_top (show _ = nI (17 * lv + 5 + sc_who c i) from nI_add (17 * lv + 5) (sc_who c i)) ?_
        refine ro_ai ar_107 rfl (by omega) dX6_hourBy_61 ?_
        rw [(h2 (sc_who c i) (by omega)).1, hgi]
        refine ro_aload_n dX6_hourBy_62 rfl rfl ?_
        refine gf_X6_saying  in_X6_hourBy_X6 lk_X6_hourBy_16 dX6_hourBy_63 ?_
        refine ro_iconst (v := 3) dX6_hourBy_66 (by decide) ?_
        refine ro_iload dX6_hourBy_67 rfl ?_
        refine ro_imul dX6_hourBy_69 ?_
        refine ro_top (show _ = nI (3 * sayK ln c) from pk_mul 3 (sayK ln c)) ?_
        refine ro_iconst (v := 1) dX6_hourBy_70 (by decide) ?_
        refine ro_iadd dX6_hourBy_71 ?_
        refine ro_top (show _ = nI (3 * sayK ln c + 1) from nI_add (3 * sayK ln c) (1)) ?_
        refine ro_ai ar_105 rfl (by omega) dX6_hourBy_72 ?_
        rw [hsy.2.1]
        refine ro_callS2 ok_X6_has (cr_has (by have := oc.2.2.1 i; omega) (by omega)) gX6_hourBy_X6_has (Nat.le_of_ble_eq_true rfl) (Nat.le_of_ble_eq_true rfl) dX6_hourBy_73 ?_
        refine ro_if_ne 115 dX6_hourBy_76 (by decide) (fun b76 => ?_) (fun b76 => ?_)
        · rw [bI_ne0] at b76
          refine ro_iincP6 dX6_hourBy_115 (Nat.le_of_ble_eq_true rfl) rfl ?_
          refine ro_goto 18 dX6_hourBy_118 (by decide) ?_
          rw [← if_neg (c := ln_s ln = 0) (t := (-9 : Int32)) (e := nI (sc_hr c % ln_s ln)) hs0]
          rw [nI_1]
          have hki : kn1 ln r c i = sc_kn c i := (if_pos ⟨hin, b48⟩).trans (bit_have b76)
          refine ih (i + 1) (by omega) M m hL hm (fun j hj => ?_) ⟨hS.1, ?_, hS.2.2.1, hS.2.2.2.1, hS.2.2.2.2⟩ hq0 ho _
          · rw [hmb j hj]
            by_cases z : j = i
            · subst z; rw [hki]; simp
            · rw [show decide (j < i + 1) = decide (j < i) from decide_eq_decide.mpr (by omega)]
          · obtain ⟨gk, h2, h3⟩ := hS.2.1
            refine ⟨gk, h2, fun j hj => (h3 j hj).trans ?_⟩
            show (if j < i then kn1 ln r c j else sc_kn c j) = (if j < i + 1 then kn1 ln r c j else sc_kn c j)
            by_cases z : j = i
            · subst z; rw [if_neg (Nat.lt_irrefl j), if_pos (Nat.lt_succ_self j)]; exact hki.symm
            · by_cases z2 : j < i
              · rw [if_pos z2, if_pos (by omega)]
              · rw [if_neg z2, if_neg (by omega)]
        · rw [bI_eq0] at b76
          refine ro_aload_n dX6_hourBy_79 rfl rfl ?_
          refine gf_X6_now  in_X6_hourBy_X6 lk_X6_hourBy_22 dX6_hourBy_80 ?_
          refine ro_iload_n dX6_hourBy_83 rfl rfl ?_
          refine ro_iconst (v := 5) dX6_hourBy_84 (by decide) ?_
          refine ro_iadd dX6_hourBy_85 ?_
          refine ro_top (show _ = nI (17 * lv + 5) from nI_add (17 * lv) (5)) ?_
          refine ro_iload dX6_hourBy_86 rfl ?_
          refine ro_iadd dX6_hourBy_88 ?_
          refine ro_top (show _ = nI (17 * lv + 5 + sc_who c i) from nI_add (17 * lv + 5) (sc_who c i)) ?_
          refine ro_dup2 dX6_hourBy_89 rfl rfl ?_
          refine ro_ai ar_107 rfl (by omega) dX6_hourBy_90 ?_
          rw [(h2 (sc_who c i) (by omega)).1]
          refine ro_iconst (v := 1) dX6_hourBy_91 (by decide) ?_
          refine ro_aload_n dX6_hourBy_92 rfl rfl ?_
          refine gf_X6_saying  in_X6_hourBy_X6 lk_X6_hourBy_16 dX6_hourBy_93 ?_
          refine ro_iconst (v := 3) dX6_hourBy_96 (by decide) ?_
          refine ro_iload dX6_hourBy_97 rfl ?_
          refine ro_imul dX6_hourBy_99 ?_
          refine ro_top (show _ = nI (3 * sayK ln c) from pk_mul 3 (sayK ln c)) ?_
          refine ro_iconst (v := 1) dX6_hourBy_100 (by decide) ?_
          refine ro_iadd dX6_hourBy_101 ?_
          refine ro_top (show _ = nI (3 * sayK ln c + 1) from nI_add (3 * sayK ln c) (1)) ?_
          refine ro_ai ar_105 rfl (by omega) dX6_hourBy_102 ?_
          rw [hsy.2.1]
          refine ro_ishl dX6_hourBy_103 ?_
          rw [sh_1 _ (by omega)]
          refine ro_ior dX6_hourBy_104 ?_
          rw [fa_or]
          refine ro_as ar_107 rfl (by omega) dX6_hourBy_105 (fun M105 e105 => ?_)
          refine ro_iload dX6_hourBy_106 rfl ?_
          refine ro_iconst (v := 1) dX6_hourBy_108 (by decide) ?_
          refine ro_iload dX6_hourBy_109 rfl ?_
          refine ro_ishl dX6_hourBy_111 ?_
          rw [sh_1 _ (by omega)]
          refine ro_ior dX6_hourBy_112 ?_
          rw [fa_or]
          refine ro_istore5 dX6_hourBy_113 (Nat.le_of_ble_eq_true rfl) rfl ?_
          refine ro_iincP6 dX6_hourBy_115 (Nat.le_of_ble_eq_true rfl) rfl ?_
          refine ro_goto 18 dX6_hourBy_118 (by decide) ?_
          rw [← if_neg (c := ln_s ln = 0) (t := (-9 : Int32)) (e := nI (sc_hr c % ln_s ln)) hs0]
          rw [nI_1]
          have hki : kn1 ln r c i = sc_kn c i ||| 2 ^ (ln_thing ln (sayK ln c)) := if_pos ⟨hin, b48⟩
          have r7 : M105 107 = upd (M 107) (17 * lv + 5 + sc_who c i) (nI (gk (sc_who c i) ||| 2 ^ (ln_thing ln (sayK ln c)))) := by rw [e105, va_up_self]
          have hun : ∀ q, q < 17 * lv + 5 ∨ 17 * lv + 10 ≤ q → M105 107 q = M 107 q := fun q hq => by rw [r7, pk_un (by omega)]
          refine ih (i + 1) (by omega) M105 (m ||| 2 ^ sc_who c i) (hL.keep (fun k _ => by rw [e105, va_up_ne _ _ (by decide)]) (fun q a b => by rw [e105, va_up_ne _ _ (by omega)])) (Nat.or_lt_two_pow hm (Nat.pow_lt_pow_right (by decide) hwi)) (fun j hj => ?_) ⟨fun j hj => by rw [hun _ (by omega)]; exact h1 j hj, ⟨va_up gk (sc_who c i) (gk (sc_who c i) ||| 2 ^ (ln_thing ln (sayK ln c))), fun k hk => ?_, fun j hj => ?_⟩, fun j hj => by rw [hun _ (by omega)]; exact h4 j hj, by rw [hun _ (by omega)]; exact h5, by rw [hun _ (by omega)]; exact h6⟩ (fun q hq => by rw [hun _ (by omega)]; exact hq0 q hq) (ho.tr (OnlyB.up e105 (by decide) (by decide))) _
          · rw [Nat.testBit_or, hmb j hj, Nat.testBit_two_pow]
            by_cases z : j = i
            · subst z
              rw [decide_eq_true rfl, decide_eq_true (Nat.lt_succ_self j), Bool.or_true, Bool.true_and, hki, decide_eq_false (bit_new b76)]
              rfl
            · rw [show decide (j < i + 1) = decide (j < i) from decide_eq_decide.mpr (by omega), decide_eq_false (show ¬ sc_who c i = sc_who c j from fun y => z (oc.2.1 i j hin hj y).symm), Bool.or_false]
          · rw [r7]
            unfold upd va_up
            by_cases z : k = sc_who c i
            · rw [if_pos (by omega), if_pos z]; exact ⟨rfl, Nat.or_lt_two_pow (n := 6) (h2 _ (by omega)).2 ht64⟩
            · rw [if_neg (by omega), if_neg z]; exact h2 k hk
          · show va_up gk (sc_who c i) (gk (sc_who c i) ||| 2 ^ (ln_thing ln (sayK ln c))) (sc_who c j) = (if j < i + 1 then kn1 ln r c j else sc_kn c j)
            by_cases z : j = i
            · subst z
              rw [va_up_self, if_pos (Nat.lt_succ_self j), hki, hgi]
            · rw [va_up_ne _ _ (fun y => z (oc.2.1 j i hj hin y))]
              refine (h3 j hj).trans ?_
              show (if j < i then kn1 ln r c j else sc_kn c j) = _
              by_cases z2 : j < i
              · rw [if_pos z2, if_pos (by omega)]
              · rw [if_neg z2, if_neg (by omega)]
theorem cr_hourBy {g : GT} {M : MM} {L : LL} {lv : Nat} {ln : LN} {b r : Nat} {c : SC} (hv : lv < 2) (hL : RLn M ln) (ok : LnOK ln) (hS : ScR (M 107) (17 * lv) (ln_n ln) c) (oc : ScOK (ln_n ln) b c) (hr : r ≤ 9) (hb : b < 2 ^ 30) : CTQ g mX6_hourBy 2 [.ref (dq_A g 102), .int (nI lv), .int (nI r)] M L (fun v M' L' => v = some (.int (nI (hourN ln r c))) ∧ ScR (M' 107) (17 * lv) (ln_n ln) (hourC ln r c) ∧ (∀ q, (q < 17 * lv ∨ 17 * lv + 17 ≤ q) → M' 107 q = M 107 q) ∧ OnlyB 107 107 M M' ∧ L' = L) := by
  refine ct_of ok_X6_hourBy (lv := [some (.ref (dq_A g 102)), some (.int (nI lv)), some (.int (nI r)), none, none, none, none, none]) rfl (Nat.le_of_ble_eq_true rfl) ?_
  refine ro_bipush (v := 17) dX6_hourBy_0 (by decide) ?_
  refine ro_iload_n dX6_hourBy_2 rfl rfl ?_
  refine ro_imul dX6_hourBy_3 ?_
  refine ro_top (show _ = nI (17 * lv) from pk_mul 17 (lv)) ?_
  refine ro_istore_n3 dX6_hourBy_4 (Nat.le_of_ble_eq_true rfl) rfl ?_
  refine ro_aload_n dX6_hourBy_5 rfl rfl ?_
  refine ro_iload_n dX6_hourBy_6 rfl rfl ?_
  refine ro_callV1 ok_X6_sayingOn (cr_sayingOn hv hL ok hS.2.2.2.1 (by have := oc.2.2.2.2.2; omega)) ce_X6 rfl rfl gX6_hourBy_X6_sayingOn (Nat.le_of_ble_eq_true rfl) (Nat.le_of_ble_eq_true rfl) dX6_hourBy_7 ?_
  refine ro_istore4 dX6_hourBy_10 (Nat.le_of_ble_eq_true rfl) rfl ?_
  refine ro_iconst (v := 0) dX6_hourBy_12 (by decide) ?_
  refine ro_istore5 dX6_hourBy_13 (Nat.le_of_ble_eq_true rfl) rfl ?_
  refine ro_iconst (v := 0) dX6_hourBy_15 (by decide) ?_
  refine ro_istore6 dX6_hourBy_16 (Nat.le_of_ble_eq_true rfl) rfl ?_
  refine hb_18 hv ok oc hr hb (ln_n ln) 0 (by omega) M 0 hL (Nat.two_pow_pos _) (fun j hj => by rw [decide_eq_false (Nat.not_lt_zero j)]; simp) ⟨hS.1, ?_, hS.2.2.1, hS.2.2.2.1, hS.2.2.2.2⟩ (fun _ _ => rfl) OnlyB.rf none
  obtain ⟨gk, h2, h3⟩ := hS.2.1
  exact ⟨gk, h2, fun j hj => (h3 j hj).trans (by show sc_kn c j = (if j < 0 then kn1 ln r c j else sc_kn c j); simp)⟩
