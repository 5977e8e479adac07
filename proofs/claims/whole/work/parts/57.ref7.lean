theorem smB_app (f : Nat → Nat) (m : Nat) : ∀ n, smB f (m + n) = smB f m + smB (fun k => f (m + k)) n
  | 0 => rfl
  | n + 1 => by rw [← Nat.add_assoc, smB, smB, smB_app f m n, Nat.add_assoc]
theorem smB_mulR (f : Nat → Nat) (y : Nat) : ∀ n, smB (fun k => f k * y) n = smB f n * y
  | 0 => by simp [smB]
  | n + 1 => by rw [smB, smB, smB_mulR f y n, Nat.add_mul]
theorem wtF_cong {st st' x : Nat} : ∀ i, (∀ k, k < i → st.testBit k = st'.testBit k) → wtF st x i = wtF st' x i
  | 0, _ => rfl
  | i + 1, h => by rw [wtF, wtF, wtF_cong i (fun k hk => h k (by omega)), h i (by omega)]
theorem wt_sum {x : Nat} (hx : x ≤ 10) : ∀ n, smB (fun st => wtF st x n) (2 ^ n) = 10 ^ n
  | 0 => rfl
  | n + 1 => by
    have h1 : smB (fun st => wtF st x (n + 1)) (2 ^ n) = 10 ^ n * (10 - x) := by
      rw [← wt_sum hx n, ← smB_mulR]
      refine smB_cong (fun k hk => ?_)
      rw [wtF, if_neg (by rw [Nat.testBit_lt_two_pow hk]; decide)]
    have h2 : smB (fun st => wtF (2 ^ n + st) x (n + 1)) (2 ^ n) = 10 ^ n * x := by
      rw [← wt_sum hx n, ← smB_mulR]
      refine smB_cong (fun k hk => ?_)
      rw [wtF, if_pos (by rw [Nat.testBit_two_pow_add_eq, Nat.testBit_lt_two_pow hk]; rfl), wtF_cong n (fun j hj => Nat.testBit_two_pow_add_gt hj k)]
    rw [show 2 ^ (n + 1) = 2 ^ n + 2 ^ n by rw [Nat.pow_succ]; omega, smB_app, h1, h2, ← Nat.mul_add, show 10 - x + x = 10 by omega, Nat.pow_succ]
theorem gcd_ne {a b : Nat} (hb : 0 < b) : 0 < Nat.gcd a b := Nat.gcd_pos_of_pos_right _ hb
theorem fr_eq {a b c d : Nat} (hb : 0 < b) (hd : 0 < d) (h : a * d = c * b) : a / Nat.gcd a b = c / Nat.gcd c d ∧ b / Nat.gcd a b = d / Nat.gcd c d := by
  have e : Nat.gcd a b * d = Nat.gcd c d * b := by rw [← Nat.gcd_mul_right, ← Nat.gcd_mul_right, h, Nat.mul_comm b d]
  constructor
  · rw [← Nat.mul_div_mul_right a _ hd, e, h, Nat.mul_div_mul_right _ _ hb]
  · rw [← Nat.mul_div_mul_right b _ hd, e, Nat.mul_comm b d, Nat.mul_div_mul_right _ _ hb]
theorem lr_dry {g : GT} {L : LL} {ln : LN} {b k t n x st : Nat} {u q6 q7 : Int32} {c : SC} {M0 : MM} {Q : Option Value → MM → LL → Prop} (ok : LnOK ln) (oc : ScOK (ln_n ln) b c) (hb : b < 2 ^ 28) (hn : n ≤ 6) (hx : x ≤ 10) (hst : st < 64) (K : ∀ M : MM, RLn M ln → ScR (M 107) (17 * 1) (ln_n ln) (dsC ln st c n) → RScr M0 M → JW g mX6_dries 3 Q M L 134 [some (.ref (dq_A g 102)), some (.int (nI k)), some (.int (nI t)), some (.int (nI n)), some (.int (nI x)), some (.int u), some (.int q6), some (.int q7), some (.int (nI st)), some (.int (nI (wtF st x n))), some (.int (nI n))] []) : ∀ (f i : Nat), i + f = n → ∀ M : MM, RLn M ln → ScR (M 107) (17 * 1) (ln_n ln) (dsC ln st c i) → RScr M0 M → JW g mX6_dries 3 Q M L 72 [some (.ref (dq_A g 102)), some (.int (nI k)), some (.int (nI t)), some (.int (nI n)), some (.int (nI x)), some (.int u), some (.int q6), some (.int q7), some (.int (nI st)), some (.int (nI (wtF st x i))), some (.int (nI i))] [] := by
  have a1 := ok.1
  intro f
  induction f with
  | zero =>
    intro i hi M hL hS ho
    refine ro_iload dX6_dries_72 rfl ?_
    refine ro_iload_n dX6_dries_74 rfl rfl ?_
    refine ro_icmp_ge 134 dX6_dries_75 (by decide) (fun b75 => ?_) (fun b75 => ?_)
    · have e : i = n := by omega
      subst e
      exact K M hL hS ho
    · exact absurd (nI_le (by omega) (by omega)) b75
  | succ f ih =>
    intro i hi M hL hS ho
    refine ro_iload dX6_dries_72 rfl ?_
    refine ro_iload_n dX6_dries_74 rfl rfl ?_
    refine ro_icmp_ge 134 dX6_dries_75 (by decide) (fun b75 => ?_) (fun b75 => ?_)
    · exact absurd b75 (nI_ge (by omega) (by omega))
    · refine ro_iload dX6_dries_78 rfl ?_
      refine ro_iload dX6_dries_80 rfl ?_
      refine ro_iload dX6_dries_82 rfl ?_
      refine ro_callS2 ok_X6_has (cr_has (by omega) (by omega)) gX6_dries_X6_has (Nat.le_of_ble_eq_true rfl) (Nat.le_of_ble_eq_true rfl) dX6_dries_84 ?_
      refine ro_if_eq 95 dX6_dries_87 (by decide) (fun b87 => ?_) (fun b87 => ?_)
      · rw [bI_eq0] at b87
        refine ro_bipush (v := 10) dX6_dries_95 (by decide) ?_
        refine ro_iload dX6_dries_97 rfl ?_
        refine ro_isub dX6_dries_99 ?_
        refine ro_top (show _ = nI (10 - x) from pk_sub (a := 10) hx) ?_
        refine ro_imul dX6_dries_100 ?_
        rw [pk_mul]
        refine ro_istore9 dX6_dries_101 (Nat.le_of_ble_eq_true rfl) rfl ?_
        refine ro_aload_n dX6_dries_103 rfl rfl ?_
        refine ro_iconst (v := 1) dX6_dries_104 (by decide) ?_
        refine ro_iload dX6_dries_105 rfl ?_
        refine ro_iload dX6_dries_107 rfl ?_
        refine ro_callS2 ok_X6_has (cr_has (by omega) (by omega)) gX6_dries_X6_has (Nat.le_of_ble_eq_true rfl) (Nat.le_of_ble_eq_true rfl) dX6_dries_109 ?_
        refine ro_if_eq 119 dX6_dries_112 (by decide) (fun b112 => ?_) (fun b112 => ?_)
        · rw [bI_eq0] at b112
          refine ro_aload_n dX6_dries_119 rfl rfl ?_
          refine ro_iconst (v := 1) dX6_dries_120 (by decide) ?_
          refine ro_callV1 ok_X6_rainOn (cr_rainOn (lv := 1) (by decide) hL ok hS.2.2.2.1 (by have := (dsC_ok (st := st) ok oc i).2.2.2.2.2; omega)) ce_X6 rfl rfl gX6_dries_X6_rainOn (Nat.le_of_ble_eq_true rfl) (Nat.le_of_ble_eq_true rfl) dX6_dries_121 ?_
          first
            | refine ro_top (show (0 : Int32) = nI (dsR ln st i (dsC ln st c i)) from by rw [dsR, if_pos b112]; rfl) ?_
            | refine ro_top (show nI (ln_rainAt ln (sc_hr (dsC ln st c i))) = nI (dsR ln st i (dsC ln st c i)) from by rw [dsR, if_neg (by rw [b112]; decide)]) ?_
          refine ro_callV2Q ok_X6_hourBy (cr_hourBy (lv := 1) (by decide) hL ok hS (dsC_ok (st := st) ok oc i) (dsR_le ok) (by omega)) ce_X6 rfl rfl gX6_dries_X6_hourBy (Nat.le_of_ble_eq_true rfl) (Nat.le_of_ble_eq_true rfl) dX6_dries_124 (fun v124 M124 L124 q124 => ?_)
          obtain ⟨rfl, hS124, hq124, ho124, rfl⟩ := q124
          refine ro_pop dX6_dries_127 rfl ?_
          refine ro_iincP10 dX6_dries_128 (Nat.le_of_ble_eq_true rfl) rfl ?_
          refine ro_goto 72 dX6_dries_131 (by decide) ?_
          rw [nI_1]
          first
            | (rw [b87] at b112; exact absurd b112 (by decide))
            | (have z := ih (i + 1) (by omega) M124 (hL.k7 ho124) hS124 (ho.tr (RScr.lv1 ho124 hq124))
               rw [show wtF st x (i + 1) = wtF st x i * x from by rw [wtF, if_pos b87]] at z
               exact z)
            | (have z := ih (i + 1) (by omega) M124 (hL.k7 ho124) hS124 (ho.tr (RScr.lv1 ho124 hq124))
               rw [show wtF st x (i + 1) = wtF st x i * (10 - x) from by rw [wtF, if_neg (by rw [b87]; decide)]] at z
               exact z)
        · rw [bI_ne0] at b112
          refine ro_iconst (v := 0) dX6_dries_115 (by decide) ?_
          refine ro_goto 124 dX6_dries_116 (by decide) ?_
          first
            | refine ro_top (show (0 : Int32) = nI (dsR ln st i (dsC ln st c i)) from by rw [dsR, if_pos b112]; rfl) ?_
            | refine ro_top (show nI (ln_rainAt ln (sc_hr (dsC ln st c i))) = nI (dsR ln st i (dsC ln st c i)) from by rw [dsR, if_neg (by rw [b112]; decide)]) ?_
          refine ro_callV2Q ok_X6_hourBy (cr_hourBy (lv := 1) (by decide) hL ok hS (dsC_ok (st := st) ok oc i) (dsR_le ok) (by omega)) ce_X6 rfl rfl gX6_dries_X6_hourBy (Nat.le_of_ble_eq_true rfl) (Nat.le_of_ble_eq_true rfl) dX6_dries_124 (fun v124 M124 L124 q124 => ?_)
          obtain ⟨rfl, hS124, hq124, ho124, rfl⟩ := q124
          refine ro_pop dX6_dries_127 rfl ?_
          refine ro_iincP10 dX6_dries_128 (Nat.le_of_ble_eq_true rfl) rfl ?_
          refine ro_goto 72 dX6_dries_131 (by decide) ?_
          rw [nI_1]
          first
            | (rw [b87] at b112; exact absurd b112 (by decide))
            | (have z := ih (i + 1) (by omega) M124 (hL.k7 ho124) hS124 (ho.tr (RScr.lv1 ho124 hq124))
               rw [show wtF st x (i + 1) = wtF st x i * x from by rw [wtF, if_pos b87]] at z
               exact z)
            | (have z := ih (i + 1) (by omega) M124 (hL.k7 ho124) hS124 (ho.tr (RScr.lv1 ho124 hq124))
               rw [show wtF st x (i + 1) = wtF st x i * (10 - x) from by rw [wtF, if_neg (by rw [b87]; decide)]] at z
               exact z)
      · rw [bI_ne0] at b87
        refine ro_iload dX6_dries_90 rfl ?_
        refine ro_goto 100 dX6_dries_92 (by decide) ?_
        refine ro_imul dX6_dries_100 ?_
        rw [pk_mul]
        refine ro_istore9 dX6_dries_101 (Nat.le_of_ble_eq_true rfl) rfl ?_
        refine ro_aload_n dX6_dries_103 rfl rfl ?_
        refine ro_iconst (v := 1) dX6_dries_104 (by decide) ?_
        refine ro_iload dX6_dries_105 rfl ?_
        refine ro_iload dX6_dries_107 rfl ?_
        refine ro_callS2 ok_X6_has (cr_has (by omega) (by omega)) gX6_dries_X6_has (Nat.le_of_ble_eq_true rfl) (Nat.le_of_ble_eq_true rfl) dX6_dries_109 ?_
        refine ro_if_eq 119 dX6_dries_112 (by decide) (fun b112 => ?_) (fun b112 => ?_)
        · rw [bI_eq0] at b112
          refine ro_aload_n dX6_dries_119 rfl rfl ?_
          refine ro_iconst (v := 1) dX6_dries_120 (by decide) ?_
          refine ro_callV1 ok_X6_rainOn (cr_rainOn (lv := 1) (by decide) hL ok hS.2.2.2.1 (by have := (dsC_ok (st := st) ok oc i).2.2.2.2.2; omega)) ce_X6 rfl rfl gX6_dries_X6_rainOn (Nat.le_of_ble_eq_true rfl) (Nat.le_of_ble_eq_true rfl) dX6_dries_121 ?_
          first
            | refine ro_top (show (0 : Int32) = nI (dsR ln st i (dsC ln st c i)) from by rw [dsR, if_pos b112]; rfl) ?_
            | refine ro_top (show nI (ln_rainAt ln (sc_hr (dsC ln st c i))) = nI (dsR ln st i (dsC ln st c i)) from by rw [dsR, if_neg (by rw [b112]; decide)]) ?_
          refine ro_callV2Q ok_X6_hourBy (cr_hourBy (lv := 1) (by decide) hL ok hS (dsC_ok (st := st) ok oc i) (dsR_le ok) (by omega)) ce_X6 rfl rfl gX6_dries_X6_hourBy (Nat.le_of_ble_eq_true rfl) (Nat.le_of_ble_eq_true rfl) dX6_dries_124 (fun v124 M124 L124 q124 => ?_)
          obtain ⟨rfl, hS124, hq124, ho124, rfl⟩ := q124
          refine ro_pop dX6_dries_127 rfl ?_
          refine ro_iincP10 dX6_dries_128 (Nat.le_of_ble_eq_true rfl) rfl ?_
          refine ro_goto 72 dX6_dries_131 (by decide) ?_
          rw [nI_1]
          first
            | (rw [b87] at b112; exact absurd b112 (by decide))
            | (have z := ih (i + 1) (by omega) M124 (hL.k7 ho124) hS124 (ho.tr (RScr.lv1 ho124 hq124))
               rw [show wtF st x (i + 1) = wtF st x i * x from by rw [wtF, if_pos b87]] at z
               exact z)
            | (have z := ih (i + 1) (by omega) M124 (hL.k7 ho124) hS124 (ho.tr (RScr.lv1 ho124 hq124))
               rw [show wtF st x (i + 1) = wtF st x i * (10 - x) from by rw [wtF, if_neg (by rw [b87]; decide)]] at z
               exact z)
        · rw [bI_ne0] at b112
          refine ro_iconst (v := 0) dX6_dries_115 (by decide) ?_
          refine ro_goto 124 dX6_dries_116 (by decide) ?_
          first
            | refine ro_top (show (0 : Int32) = nI (dsR ln st i (dsC ln st c i)) from by rw [dsR, if_pos b112]; rfl) ?_
            | refine ro_top (show nI (ln_rainAt ln (sc_hr (dsC ln st c i))) = nI (dsR ln st i (dsC ln st c i)) from by rw [dsR, if_neg (by rw [b112]; decide)]) ?_
          refine ro_callV2Q ok_X6_hourBy (cr_hourBy (lv := 1) (by decide) hL ok hS (dsC_ok (st := st) ok oc i) (dsR_le ok) (by omega)) ce_X6 rfl rfl gX6_dries_X6_hourBy (Nat.le_of_ble_eq_true rfl) (Nat.le_of_ble_eq_true rfl) dX6_dries_124 (fun v124 M124 L124 q124 => ?_)
          obtain ⟨rfl, hS124, hq124, ho124, rfl⟩ := q124
          refine ro_pop dX6_dries_127 rfl ?_
          refine ro_iincP10 dX6_dries_128 (Nat.le_of_ble_eq_true rfl) rfl ?_
          refine ro_goto 72 dX6_dries_131 (by decide) ?_
          rw [nI_1]
          first
            | (rw [b87] at b112; exact absurd b112 (by decide))
            | (have z := ih (i + 1) (by omega) M124 (hL.k7 ho124) hS124 (ho.tr (RScr.lv1 ho124 hq124))
               rw [show wtF st x (i + 1) = wtF st x i * x from by rw [wtF, if_pos b87]] at z
               exact z)
            | (have z := ih (i + 1) (by omega) M124 (hL.k7 ho124) hS124 (ho.tr (RScr.lv1 ho124 hq124))
               rw [show wtF st x (i + 1) = wtF st x i * (10 - x) from by rw [wtF, if_neg (by rw [b87]; decide)]] at z
               exact z)
theorem lr_dries {g : GT} {L : LL} {ln : LN} {b k t n x : Nat} {u : Int32} {c : SC} {M0 : MM} (ok : LnOK ln) (oc : ScOK (ln_n ln) b c) (hb : b < 2 ^ 28) (hn : n ≤ 6) (hx : x ≤ 10) (hk : k < ln_n ln) (ht : t < 6) (hS0 : ScR (M0 107) (17 * 0) (ln_n ln) c) : ∀ (f i : Nat), i + f = 2 ^ n → ∀ M : MM, RLn M ln → ScR (M 107) (17 * 0) (ln_n ln) c → RScr M0 M → ∀ x9 x10 : Option Value, JW g mX6_dries 3 (fun v M' L' => v = some (.int (frI (drA ln c n x k t (2 ^ n)) (10 ^ n) u)) ∧ RScr M0 M' ∧ L' = L) M L 54 [some (.ref (dq_A g 102)), some (.int (nI k)), some (.int (nI t)), some (.int (nI n)), some (.int (nI x)), some (.int u), some (.int (nI (drA ln c n x k t i))), some (.int (nI (smB (fun st => wtF st x n) i))), some (.int (nI i)), x9, x10] [] := by
  have a1 := ok.1
  intro f
  induction f with
  | zero =>
    intro i hi M hL hS ho x9 x10
    have hi2 : i = 2 ^ n := by omega
    have h64 : 2 ^ n ≤ 2 ^ 6 := Nat.pow_le_pow_right (by decide) hn
    have hdr : drA ln c n x k t i < 2 ^ 31 := by have := drA_le (l := ln) (c := c) (k := k) (t := t) hx hn i; omega
    have h6 : 10 ^ n ≤ 10 ^ 6 := Nat.pow_le_pow_right (by decide) hn
    have h60 : 0 < 10 ^ n := Nat.pow_pos (by decide)
    have hal0 : smB (fun st => wtF st x n) i = 10 ^ n := by rw [hi2]; exact wt_sum hx n
    have hal : smB (fun st => wtF st x n) i < 2 ^ 31 := by omega
    refine ro_iload dX6_dries_54 rfl ?_
    refine ro_iconst (v := 1) dX6_dries_56 (by decide) ?_
    refine ro_iload_n dX6_dries_57 rfl rfl ?_
    refine ro_ishl dX6_dries_58 ?_
    rw [sh_1 n (by omega)]
    refine ro_icmp_ge 171 dX6_dries_59 (by decide) (fun b59 => ?_) (fun b59 => ?_)
    · refine ro_iload dX6_dries_171 rfl ?_
      refine ro_iload dX6_dries_173 rfl ?_
      refine ro_callS2 ok_X6_common (cr_common hdr hal) gX6_dries_X6_common (Nat.le_of_ble_eq_true rfl) (Nat.le_of_ble_eq_true rfl) dX6_dries_175 ?_
      refine ro_istore8 dX6_dries_178 (Nat.le_of_ble_eq_true rfl) rfl ?_
      have hgne : ¬ nI (Nat.gcd (drA ln c n x k t i) (smB (fun st => wtF st x n) i)) = 0 := nI_ne0 (gcd_ne (by omega)) (by have := Nat.gcd_le_right (drA ln c n x k t i) (show 0 < smB (fun st => wtF st x n) i by omega); omega)
      refine ro_iload dX6_dries_180 rfl ?_
      refine ro_if_eq 193 dX6_dries_182 (by decide) (fun b182 => ?_) (fun b182 => ?_)
      · refine ro_iload dX6_dries_193 rfl ?_
        refine ro_iload dX6_dries_195 rfl ?_
        refine ro_idiv dX6_dries_197 hgne ?_
        refine ro_iret rfl dX6_dries_198 ?_
        refine ⟨?_, ho, rfl⟩
        have hg2 := Nat.gcd_le_right (drA ln c n x k t i) (show 0 < smB (fun st => wtF st x n) i by omega)
        have hg3 := gcd_ne (a := drA ln c n x k t i) (show 0 < smB (fun st => wtF st x n) i by omega)
        subst hi2
        unfold frI
        first
          | (rw [if_pos b182, pk_div (by omega) (by omega) (by omega), wt_sum hx])
          | (rw [if_neg b182, pk_div (by omega) (by omega) (by omega), wt_sum hx])
      · refine ro_iload dX6_dries_185 rfl ?_
        refine ro_iload dX6_dries_187 rfl ?_
        refine ro_idiv dX6_dries_189 hgne ?_
        refine ro_goto 198 dX6_dries_190 (by decide) ?_
        refine ro_iret rfl dX6_dries_198 ?_
        refine ⟨?_, ho, rfl⟩
        have hg2 := Nat.gcd_le_right (drA ln c n x k t i) (show 0 < smB (fun st => wtF st x n) i by omega)
        have hg3 := gcd_ne (a := drA ln c n x k t i) (show 0 < smB (fun st => wtF st x n) i by omega)
        subst hi2
        unfold frI
        first
          | (rw [if_pos b182, pk_div (by omega) (by omega) (by omega), wt_sum hx])
          | (rw [if_neg b182, pk_div (by omega) (by omega) (by omega), wt_sum hx])
    · exact absurd (nI_le (by omega) (by omega)) b59
  | succ f ih =>
    intro i hi M hL hS ho x9 x10
    have h64 : 2 ^ n ≤ 2 ^ 6 := Nat.pow_le_pow_right (by decide) hn
    refine ro_iload dX6_dries_54 rfl ?_
    refine ro_iconst (v := 1) dX6_dries_56 (by decide) ?_
    refine ro_iload_n dX6_dries_57 rfl rfl ?_
    refine ro_ishl dX6_dries_58 ?_
    rw [sh_1 n (by omega)]
    refine ro_icmp_ge 171 dX6_dries_59 (by decide) (fun b59 => ?_) (fun b59 => ?_)
    · exact absurd b59 (nI_ge (by omega) (by omega))
    · refine ro_aload_n dX6_dries_62 rfl rfl ?_
      refine ro_callV0Q ok_X6_layTrial (cr_lay0) ce_X6 rfl rfl gX6_dries_X6_layTrial (Nat.le_of_ble_eq_true rfl) (Nat.le_of_ble_eq_true rfl) dX6_dries_63 (fun v63 M63 L63 q63 => ?_)
      obtain ⟨rfl, hr63, hq63, ho63, rfl⟩ := q63
      have hS63 : ScR (M63 107) (17 * 1) (ln_n ln) c := hS.cong (fun k hk => by rw [show 17 * 1 + k = 17 + k from rfl, hr63 k hk, show 17 * 0 + k = k by omega])
      have hL63 := hL.k7 ho63
      have hx63 : RScr M M63 := RScr.lv1 ho63 (fun q z => hq63 q (by omega))
      refine ro_iconst (v := 1) dX6_dries_66 (by decide) ?_
      refine ro_istore9 dX6_dries_67 (Nat.le_of_ble_eq_true rfl) rfl ?_
      refine ro_iconst (v := 0) dX6_dries_69 (by decide) ?_
      refine ro_istore10 dX6_dries_70 (Nat.le_of_ble_eq_true rfl) rfl ?_
      refine lr_dry (st := i) (M0 := M0) ok oc hb hn hx (by omega) (fun M2 hL2 hS2 ho2 => ?_) n 0 (by omega) M63 hL63 hS63 (ho.tr hx63)
      refine ro_iload dX6_dries_134 rfl ?_
      refine ro_iload dX6_dries_136 rfl ?_
      refine ro_iadd dX6_dries_138 ?_
      rw [nI_add]
      refine ro_istore7 dX6_dries_139 (Nat.le_of_ble_eq_true rfl) rfl ?_
      refine ro_iload dX6_dries_141 rfl ?_
      refine ro_aload_n dX6_dries_143 rfl rfl ?_
      refine ro_iconst (v := 1) dX6_dries_144 (by decide) ?_
      refine ro_iload_n dX6_dries_145 rfl rfl ?_
      refine ro_callV2 ok_X6_knowsAt (cr_knowsAt (lv := 1) (by decide) hS2 (dsC_ok (st := i) ok oc n).1 a1 hk) ce_X6 rfl rfl gX6_dries_X6_knowsAt (Nat.le_of_ble_eq_true rfl) (Nat.le_of_ble_eq_true rfl) dX6_dries_146 ?_
      refine ro_iload_n dX6_dries_149 rfl rfl ?_
      refine ro_callS2 ok_X6_has (cr_has (by have := (dsC_ok (st := i) ok oc n).2.2.1 k; omega) (by omega)) gX6_dries_X6_has (Nat.le_of_ble_eq_true rfl) (Nat.le_of_ble_eq_true rfl) dX6_dries_150 ?_
      refine ro_if_eq 161 dX6_dries_153 (by decide) (fun b153 => ?_) (fun b153 => ?_)
      · rw [bI_eq0] at b153
        refine ro_iconst (v := 0) dX6_dries_161 (by decide) ?_
        refine ro_iadd dX6_dries_162 ?_
        first
          | rw [nI_add]
          | skip
        refine ro_istore6 dX6_dries_163 (Nat.le_of_ble_eq_true rfl) rfl ?_
        refine ro_iincP8 dX6_dries_165 (Nat.le_of_ble_eq_true rfl) rfl ?_
        refine ro_goto 54 dX6_dries_168 (by decide) ?_
        rw [nI_1]
        have z := ih (i + 1) (by omega) M2 hL2 (RScr.sc0 hS0 ho2) ho2 (some (.int (nI (wtF i x n)))) (some (.int (nI n)))
        first
          | (rw [show drA ln c n x k t (i + 1) = drA ln c n x k t i + wtF i x n from by unfold drA; rw [smB, if_pos b153]] at z
             exact z)
          | (rw [show drA ln c n x k t (i + 1) = drA ln c n x k t i from by unfold drA; rw [smB, if_neg (by rw [b153]; decide)]; rfl] at z
             rw [show nI (drA ln c n x k t i) + 0 = nI (drA ln c n x k t i) from nI_add _ 0]
             exact z)
      · rw [bI_ne0] at b153
        refine ro_iload dX6_dries_156 rfl ?_
        refine ro_goto 162 dX6_dries_158 (by decide) ?_
        refine ro_iadd dX6_dries_162 ?_
        first
          | rw [nI_add]
          | skip
        refine ro_istore6 dX6_dries_163 (Nat.le_of_ble_eq_true rfl) rfl ?_
        refine ro_iincP8 dX6_dries_165 (Nat.le_of_ble_eq_true rfl) rfl ?_
        refine ro_goto 54 dX6_dries_168 (by decide) ?_
        rw [nI_1]
        have z := ih (i + 1) (by omega) M2 hL2 (RScr.sc0 hS0 ho2) ho2 (some (.int (nI (wtF i x n)))) (some (.int (nI n)))
        first
          | (rw [show drA ln c n x k t (i + 1) = drA ln c n x k t i + wtF i x n from by unfold drA; rw [smB, if_pos b153]] at z
             exact z)
          | (rw [show drA ln c n x k t (i + 1) = drA ln c n x k t i from by unfold drA; rw [smB, if_neg (by rw [b153]; decide)]; rfl] at z
             rw [show nI (drA ln c n x k t i) + 0 = nI (drA ln c n x k t i) from nI_add _ 0]
             exact z)
theorem cr_dries {g : GT} {M : MM} {L : LL} {S : ST} {b : Nat} {x y m q u : Int32} (h : RR M L S) (ok : StOK b S) : CTQ g mX6_dries 3 [.ref (dq_A g 102), .int x, .int y, .int m, .int q, .int u] M L (QR M L (sp_dries S x y m q u)) := by
  have hL := h.1
  have hS : ScR (M 107) (17 * 0) (ln_n (st_l S)) (st_c S) := h.2.1
  have hA := h.2.2.2.2.1
  have okl := ok.2.2.1
  have oc := ok.2.2.2.1
  have a1 := okl.1
  have hb := ok.2.2.2.2.2.2.2
  have h64 := ok.1
  refine ct_of ok_X6_dries (lv := [some (.ref (dq_A g 102)), some (.int x), some (.int y), some (.int m), some (.int q), some (.int u), none, none, none, none, none]) rfl (Nat.le_of_ble_eq_true rfl) ?_
  refine ro_aload_n dX6_dries_0 rfl rfl ?_
  refine ro_iload_n dX6_dries_1 rfl rfl ?_
  refine ro_callV1 ok_X6_isHouse (cr_isHouse hL okl x) ce_X6 rfl rfl gX6_dries_X6_isHouse (Nat.le_of_ble_eq_true rfl) (Nat.le_of_ble_eq_true rfl) dX6_dries_2 ?_
  refine ro_if_eq 15 dX6_dries_5 (by decide) (fun b5 => ?_) (fun b5 => ?_)
  · rw [bI_eq0] at b5
    refine ro_iconst (v := -1) dX6_dries_15 (by decide) ?_
    refine ro_iret rfl dX6_dries_16 ?_
    rw [show sp_dries S x y m q u = (-1, S) from by unfold sp_dries; rw [if_neg (fun z => by first | (rw [b5] at z; exact absurd z.1 (by decide)) | (rw [b12] at z; exact absurd z.2 (by decide)))]]
    exact ⟨rfl, h, RScr.rf.all, rfl⟩
  · rw [bI_ne0] at b5
    refine ro_iload_n dX6_dries_8 rfl rfl ?_
    refine ro_callS1 ok_X6_isThing (cr_isThing y) gX6_dries_X6_isThing (Nat.le_of_ble_eq_true rfl) (Nat.le_of_ble_eq_true rfl) dX6_dries_9 ?_
    refine ro_if_ne 17 dX6_dries_12 (by decide) (fun b12 => ?_) (fun b12 => ?_)
    · rw [bI_ne0] at b12
      obtain ⟨k, hk, rfl⟩ := hB_some (by omega) b5
      obtain ⟨t, ht, rfl⟩ := hB_some (by omega) b12
      refine ro_iload_n dX6_dries_17 rfl rfl ?_
      refine ro_i2l dX6_dries_18 ?_
      refine ro_lconst (v := 1) dX6_dries_19 (by decide) ?_
      refine ro_ldc2 dX6_dries_20 lk_X6_dries_214 ?_
      refine ro_callS3 ok_X6_in (cr_in _ _ _) gX6_dries_X6_in (Nat.le_of_ble_eq_true rfl) (Nat.le_of_ble_eq_true rfl) dX6_dries_23 ?_
      rw [in_r (a := 1) (b := 6) rfl rfl]
      refine ro_if_eq 42 dX6_dries_26 (by decide) (fun b26 => ?_) (fun b26 => ?_)
      · rw [bI_eq0, decide_eq_false_iff_not] at b26
        refine ro_bipush (v := -2) dX6_dries_42 (by decide) ?_
        refine ro_iret rfl dX6_dries_44 ?_
        refine ⟨?_, h, RScr.rf.all, rfl⟩
        show _ = some (Value.int (sp_dries S _ _ _ _ _).1)
        unfold sp_dries
        rw [if_pos ⟨b5, b12⟩, if_pos (Classical.byContradiction fun z => by
          first
            | exact b26 ⟨fun y => z (Or.inl y), fun y => z (Or.inr (Or.inl y))⟩
            | exact b39 ⟨fun y => z (Or.inr (Or.inr (Or.inl y))), fun y => z (Or.inr (Or.inr (Or.inr y)))⟩)]
      · rw [bI_ne0, decide_eq_true_eq] at b26
        obtain ⟨n, hn1, hn, rfl⟩ := in_rs (lo := 1) (hi := 6) (by decide) (by decide) b26.1 b26.2
        refine ro_iload dX6_dries_29 rfl ?_
        refine ro_i2l dX6_dries_31 ?_
        refine ro_lconst (v := 0) dX6_dries_32 (by decide) ?_
        refine ro_ldc2 dX6_dries_33 lk_X6_dries_216 ?_
        refine ro_callS3 ok_X6_in (cr_in _ _ _) gX6_dries_X6_in (Nat.le_of_ble_eq_true rfl) (Nat.le_of_ble_eq_true rfl) dX6_dries_36 ?_
        rw [in_r (a := 0) (b := 10) rfl rfl]
        refine ro_if_ne 45 dX6_dries_39 (by decide) (fun b39 => ?_) (fun b39 => ?_)
        · rw [bI_ne0, decide_eq_true_eq] at b39
          obtain ⟨xx, hx1, hx, rfl⟩ := in_rs (lo := 0) (hi := 10) (by decide) (by decide) b39.1 b39.2
          refine ro_iconst (v := 0) dX6_dries_45 (by decide) ?_
          refine ro_istore6 dX6_dries_46 (Nat.le_of_ble_eq_true rfl) rfl ?_
          refine ro_iconst (v := 0) dX6_dries_48 (by decide) ?_
          refine ro_istore7 dX6_dries_49 (Nat.le_of_ble_eq_true rfl) rfl ?_
          refine ro_iconst (v := 0) dX6_dries_51 (by decide) ?_
          refine ro_istore8 dX6_dries_52 (Nat.le_of_ble_eq_true rfl) rfl ?_
          refine JW.mono ?_ (lr_dries (x := xx) (u := u) okl oc (by omega) hn hx hk ht hS (2 ^ n) 0 (by omega) M hL hS RScr.rf none none)
          rintro v M' L' ⟨rfl, ho, rfl⟩
          refine ⟨?_, h.scr ho rfl, ho.all, rfl⟩
          show _ = some (Value.int (sp_dries S (nI k) (nI t) (nI n) (nI xx) u).1)
          unfold sp_dries
          rw [if_pos ⟨b5, b12⟩, if_neg (fun z => z.elim b26.1 (fun z => z.elim b26.2 (fun z => z.elim b39.1 b39.2))), kx_nI (by omega), kx_nI (by omega), kx_nI (by omega), kx_nI (by omega)]
        · rw [bI_eq0, decide_eq_false_iff_not] at b39
          refine ro_bipush (v := -2) dX6_dries_42 (by decide) ?_
          refine ro_iret rfl dX6_dries_44 ?_
          refine ⟨?_, h, RScr.rf.all, rfl⟩
          show _ = some (Value.int (sp_dries S _ _ _ _ _).1)
          unfold sp_dries
          rw [if_pos ⟨b5, b12⟩, if_pos (Classical.byContradiction fun z => by
            first
              | exact b26 ⟨fun y => z (Or.inl y), fun y => z (Or.inr (Or.inl y))⟩
              | exact b39 ⟨fun y => z (Or.inr (Or.inr (Or.inl y))), fun y => z (Or.inr (Or.inr (Or.inr y)))⟩)]
    · rw [bI_eq0] at b12
      refine ro_iconst (v := -1) dX6_dries_15 (by decide) ?_
      refine ro_iret rfl dX6_dries_16 ?_
      rw [show sp_dries S x y m q u = (-1, S) from by unfold sp_dries; rw [if_neg (fun z => by first | (rw [b5] at z; exact absurd z.1 (by decide)) | (rw [b12] at z; exact absurd z.2 (by decide)))]]
      exact ⟨rfl, h, RScr.rf.all, rfl⟩
def shw (n s : Nat) : Nat := fct (pop s) * fct (n - 1 - pop s)
def shW (n K h : Nat) : Nat := smB (fun s => if s.testBit h = true then 0 else if s &&& K = 0 then shw n s else 0) (2 ^ n)
theorem sh_fin : ∀ n : Nat, n < 6 → ∀ h : Nat, h < n → ∀ K : Nat, K < 2 ^ n → K.testBit h = true → shW n K h * 60 = 60 / pop K * fct n := by decide +kernel
theorem sh_pop : ∀ n : Nat, n < 6 → ∀ h : Nat, h < n → ∀ s : Nat, s < 2 ^ n → s.testBit h = false → pop s + 1 ≤ n := by decide +kernel
theorem fct_b : ∀ n : Nat, n < 6 → 0 < fct n ∧ fct n ≤ 120 := by decide
def shS (n : Nat) (kn : Nat → Nat) (h s : Nat) : Nat := if s.testBit h = true then 0 else shw n s * (pop (orB (s ||| 2 ^ h).testBit kn n) - pop (orB s.testBit kn n))
def shD (n : Nat) (kn : Nat → Nat) (h s t : Nat) : Nat := if (kn h).testBit t = true ∧ (orB s.testBit kn n).testBit t = false then 1 else 0
theorem sh_bit {n h s t : Nat} {kn : Nat → Nat} (hh : h < n) : (if (orB (s ||| 2 ^ h).testBit kn n).testBit t = true then 1 else 0) = (if (orB s.testBit kn n).testBit t = true then 1 else 0) + shD n kn h s t := by
  have e : (orB (s ||| 2 ^ h).testBit kn n).testBit t = true ↔ ((orB s.testBit kn n).testBit t = true ∨ (kn h).testBit t = true) := by
    rw [orB_bit, orB_bit]
    constructor
    · rintro ⟨k, h1, h2, h3⟩
      rw [Nat.testBit_or, Bool.or_eq_true] at h2
      rcases h2 with h2 | h2
      · exact Or.inl ⟨k, h1, h2, h3⟩
      · rw [Nat.testBit_two_pow, decide_eq_true_eq] at h2
        subst h2; exact Or.inr h3
    · rintro (⟨k, h1, h2, h3⟩ | h3)
      · exact ⟨k, h1, by rw [Nat.testBit_or, h2]; rfl, h3⟩
      · exact ⟨h, hh, by rw [Nat.testBit_or, Nat.testBit_two_pow_self, Bool.or_true], h3⟩
  unfold shD
  by_cases h1 : (orB s.testBit kn n).testBit t = true
  · rw [if_pos (e.mpr (Or.inl h1)), if_pos h1, if_neg (fun z => by rw [h1] at z; exact absurd z.2 (by decide))]
  · by_cases h2 : (kn h).testBit t = true
    · rw [if_pos (e.mpr (Or.inr h2)), if_neg h1, if_pos ⟨h2, Bool.eq_false_iff.mpr h1⟩]
    · rw [if_neg (fun z => (e.mp z).elim h1 h2), if_neg h1, if_neg (fun z => h2 z.1)]
theorem sh_pops {n h s : Nat} {kn : Nat → Nat} (hh : h < n) : pop (orB (s ||| 2 ^ h).testBit kn n) = pop (orB s.testBit kn n) + smB (shD n kn h s) 8 := by
  unfold pop
  rw [ctB_sm, ctB_sm, ← smB_add]
  exact smB_cong (fun t _ => sh_bit hh)
theorem sh_and {n s : Nat} {p : Nat → Bool} (hs : s < 2 ^ n) : (s &&& mkB p n = 0) ↔ ¬ ∃ k, k < n ∧ s.testBit k = true ∧ p k = true := by
  constructor
  · rintro h ⟨k, h1, h2, h3⟩
    have h4 := congrArg (fun z => z.testBit k) h
    simp only [Nat.testBit_and, mkB_bit, Nat.zero_testBit] at h4
    rw [h2, h3, decide_eq_true h1] at h4
    cases h4
  · intro h
    apply Nat.eq_of_testBit_eq
    intro k
    rw [Nat.testBit_and, mkB_bit, Nat.zero_testBit]
    by_cases h1 : k < n
    · cases h2 : s.testBit k
      · rfl
      · cases h3 : p k
        · simp
        · exact absurd ⟨k, h1, h2, h3⟩ h
    · simp [h1]
theorem sh_t {n h t : Nat} {kn : Nat → Nat} (hn : n < 6) (hh : h < n) : smB (fun s => (if s.testBit h = true then 0 else shw n s) * shD n kn h s t) (2 ^ n) * 60 = shT n kn h t * fct n := by
  unfold shT
  by_cases hb : (kn h).testBit t = true
  · rw [if_pos hb]
    have e : smB (fun s => (if s.testBit h = true then 0 else shw n s) * shD n kn h s t) (2 ^ n) = shW n (mkB (fun j => (kn j).testBit t) n) h := by
      unfold shW
      refine smB_cong (fun s hs => ?_)
      unfold shD
      by_cases h1 : s.testBit h = true
      · rw [if_pos h1, if_pos h1, Nat.zero_mul]
      · rw [if_neg h1, if_neg h1]
        by_cases h2 : s &&& mkB (fun j => (kn j).testBit t) n = 0
        · rw [if_pos h2, if_pos ⟨hb, Bool.eq_false_iff.mpr (fun z => (sh_and hs).mp h2 (orB_bit.mp z))⟩, Nat.mul_one]
        · rw [if_neg h2, if_neg (fun z => h2 ((sh_and hs).mpr (fun y => by rw [orB_bit.mpr y] at z; exact absurd z.2 (by decide)))), Nat.mul_zero]
    rw [e, sh_fin n hn h hh _ (mkB_lt _ _) (by rw [mkB_bit, hb, decide_eq_true hh]; rfl), pop_mkB n (by omega)]
  · rw [if_neg hb, Nat.zero_mul]
    have e : smB (fun s => (if s.testBit h = true then 0 else shw n s) * shD n kn h s t) (2 ^ n) = 0 := by
      rw [← smB_zero (2 ^ n)]
      refine smB_cong (fun s hs => ?_)
      rw [show shD n kn h s t = 0 from if_neg (fun z => hb z.1), Nat.mul_zero]
    rw [e, Nat.zero_mul]
theorem smB_mulL (f : Nat → Nat) (y : Nat) : ∀ n, smB (fun k => y * f k) n = y * smB f n
  | 0 => by simp [smB]
  | n + 1 => by rw [smB, smB, smB_mulL f y n, Nat.mul_add]
theorem sh_sum {n h : Nat} {kn : Nat → Nat} (hn : n < 6) (hh : h < n) (hk : ∀ j, kn j < 64) : smB (shS n kn h) (2 ^ n) * 60 = shA n kn h 6 * fct n := by
  have e1 : smB (shS n kn h) (2 ^ n) = smB (fun s => smB (fun t => (if s.testBit h = true then 0 else shw n s) * shD n kn h s t) 8) (2 ^ n) := by
    refine smB_cong (fun s hs => ?_)
    rw [smB_mulL]
    unfold shS
    by_cases h1 : s.testBit h = true
    · rw [if_pos h1, if_pos h1, Nat.zero_mul]
    · rw [if_neg h1, if_neg h1, sh_pops hh, Nat.add_sub_cancel_left]
  have e2 : smB (shT n kn h) 8 = shA n kn h 6 := by
    have z : ∀ t, 6 ≤ t → shT n kn h t = 0 := fun t ht => if_neg (by rw [Nat.testBit_lt_two_pow (Nat.lt_of_lt_of_le (hk h) (Nat.pow_le_pow_right (by decide) ht : 2 ^ 6 ≤ 2 ^ t))]; decide)
    show smB (shT n kn h) 6 + shT n kn h 6 + shT n kn h 7 = _
    rw [z 6 (by decide), z 7 (by decide)]
    rfl
  rw [e1, smB_swap, ← smB_mulR, ← e2, ← smB_mulR]
  exact smB_cong (fun t _ => sh_t hn hh)
theorem sh_fr {n h : Nat} {kn : Nat → Nat} {u : Int32} (hn : n < 6) (hh : h < n) (hk : ∀ j, kn j < 64) : frI (smB (shS n kn h) (2 ^ n)) (fct n) u = frI (shA n kn h 6) 60 u := by
  have e := fr_eq (fct_b n hn).1 (show 0 < 60 by decide) (sh_sum hn hh hk)
  unfold frI
  rw [e.1, e.2]
theorem lr_share {g : GT} {M : MM} {L : LL} {ln : LN} {b : Nat} {c : SC} (hL : RLn M ln) (ok : LnOK ln) (hS : ScR (M 107) (17 * 0) (ln_n ln) c) (oc : ScOK (ln_n ln) b c) {k : Nat} {u : Int32} (hk : k < ln_n ln) : ∀ (f i : Nat), i + f = 2 ^ ln_n ln → ∀ x5 : Option Value, JW g mX6_share 2 (Rt (some (.int (frI (shA (ln_n ln) (sc_kn c) k 6) 60 u))) M L) M L 15 [some (.ref (dq_A g 102)), some (.int (nI k)), some (.int u), some (.int (nI (smB (shS (ln_n ln) (sc_kn c) k) i))), some (.int (nI i)), x5] [] := by
  have a1 := ok.1
  have h32 : 2 ^ ln_n ln ≤ 2 ^ 5 := Nat.pow_le_pow_right (by decide) a1
  have hK31 : ∀ m : Nat, orB (m).testBit (sc_kn c) (ln_n ln) < 2 ^ 31 := fun m => Nat.lt_trans (orB_lt (w := 6) (fun k _ => oc.2.2.1 k)) (by decide)
  have hor : ∀ m : Nat, m < 32 → m ||| 2 ^ k < 2 ^ 31 := fun m hm => Nat.or_lt_two_pow (by omega) (Nat.pow_lt_pow_right (by decide) (by omega))
  intro f
  induction f with
  | zero =>
    intro i hi x5
    have e : i = 2 ^ ln_n ln := by omega
    subst e
    have hs2 := sh_sum (n := ln_n ln) (h := k) (kn := sc_kn c) (by omega) hk oc.2.2.1
    have hfb := fct_b (ln_n ln) (by omega)
    have hsA := shA_le (ln_n ln) (sc_kn c) k 6
    have hm2 : shA (ln_n ln) (sc_kn c) k 6 * fct (ln_n ln) ≤ 360 * 120 := Nat.mul_le_mul (by omega) hfb.2
    have hsm : (smB (shS (ln_n ln) (sc_kn c) k) (2 ^ ln_n ln)) < 2 ^ 31 := by omega
    have hg2 := Nat.gcd_le_right (smB (shS (ln_n ln) (sc_kn c) k) (2 ^ ln_n ln)) hfb.1
    have hg3 := gcd_ne (a := (smB (shS (ln_n ln) (sc_kn c) k) (2 ^ ln_n ln))) hfb.1
    have hgne : ¬ nI (Nat.gcd (smB (shS (ln_n ln) (sc_kn c) k) (2 ^ ln_n ln)) (fct (ln_n ln))) = 0 := nI_ne0 hg3 (by omega)
    refine ro_iload dX6_share_15 rfl ?_
    refine ro_iconst (v := 1) dX6_share_17 (by decide) ?_
    refine ro_aload_n dX6_share_18 rfl rfl ?_
    refine gf_X6_houses  in_X6_share_X6 lk_X6_share_93 dX6_share_19 ?_
    rw [hL.1]
    refine ro_ishl dX6_share_22 ?_
    rw [sh_1 (ln_n ln) (by omega)]
    refine ro_icmp_ge 96 dX6_share_23 (by decide) (fun b23 => ?_) (fun b23 => ?_)
    · refine ro_iload_n dX6_share_96 rfl rfl ?_
      refine ro_aload_n dX6_share_97 rfl rfl ?_
      refine gf_X6_houses  in_X6_share_X6 lk_X6_share_93 dX6_share_98 ?_
      rw [hL.1]
      refine ro_callS1 ok_X6_factorial (cr_fact (by omega)) gX6_share_X6_factorial (Nat.le_of_ble_eq_true rfl) (Nat.le_of_ble_eq_true rfl) dX6_share_101 ?_
      refine ro_callS2 ok_X6_common (cr_common hsm (by omega)) gX6_share_X6_common (Nat.le_of_ble_eq_true rfl) (Nat.le_of_ble_eq_true rfl) dX6_share_104 ?_
      refine ro_istore4 dX6_share_107 (Nat.le_of_ble_eq_true rfl) rfl ?_
      refine ro_iload_n dX6_share_109 rfl rfl ?_
      refine ro_if_eq 120 dX6_share_110 (by decide) (fun b110 => ?_) (fun b110 => ?_)
      · refine ro_aload_n dX6_share_120 rfl rfl ?_
        refine gf_X6_houses  in_X6_share_X6 lk_X6_share_93 dX6_share_121 ?_
        rw [hL.1]
        refine ro_callS1 ok_X6_factorial (cr_fact (by omega)) gX6_share_X6_factorial (Nat.le_of_ble_eq_true rfl) (Nat.le_of_ble_eq_true rfl) dX6_share_124 ?_
        refine ro_iload dX6_share_127 rfl ?_
        refine ro_idiv dX6_share_129 hgne ?_
        refine ro_iret rfl dX6_share_130 ?_
        refine ⟨?_, rfl, rfl⟩
        rw [← sh_fr (by omega) hk oc.2.2.1]
        unfold frI
        first
          | (rw [if_pos b110, pk_div (by omega) (by omega) (by omega)]; done)
          | (rw [if_neg b110, pk_div (by omega) (by omega) (by omega)]; done)
      · refine ro_iload_n dX6_share_113 rfl rfl ?_
        refine ro_iload dX6_share_114 rfl ?_
        refine ro_idiv dX6_share_116 hgne ?_
        refine ro_goto 130 dX6_share_117 (by decide) ?_
        refine ro_iret rfl dX6_share_130 ?_
        refine ⟨?_, rfl, rfl⟩
        rw [← sh_fr (by omega) hk oc.2.2.1]
        unfold frI
        first
          | (rw [if_pos b110, pk_div (by omega) (by omega) (by omega)]; done)
          | (rw [if_neg b110, pk_div (by omega) (by omega) (by omega)]; done)
    · exact absurd (nI_le (by omega) (by omega)) b23
  | succ f ih =>
    intro i hi x5
    refine ro_iload dX6_share_15 rfl ?_
    refine ro_iconst (v := 1) dX6_share_17 (by decide) ?_
    refine ro_aload_n dX6_share_18 rfl rfl ?_
    refine gf_X6_houses  in_X6_share_X6 lk_X6_share_93 dX6_share_19 ?_
    rw [hL.1]
    refine ro_ishl dX6_share_22 ?_
    rw [sh_1 (ln_n ln) (by omega)]
    refine ro_icmp_ge 96 dX6_share_23 (by decide) (fun b23 => ?_) (fun b23 => ?_)
    · exact absurd b23 (nI_ge (by omega) (by omega))
    · refine ro_iload dX6_share_26 rfl ?_
      refine ro_iload_n dX6_share_28 rfl rfl ?_
      refine ro_callS2 ok_X6_has (cr_has (by omega) (by omega)) gX6_share_X6_has (Nat.le_of_ble_eq_true rfl) (Nat.le_of_ble_eq_true rfl) dX6_share_29 ?_
      refine ro_if_ne 90 dX6_share_32 (by decide) (fun b32 => ?_) (fun b32 => ?_)
      · rw [bI_ne0] at b32
        refine ro_iincP4 dX6_share_90 (Nat.le_of_ble_eq_true rfl) rfl ?_
        refine ro_goto 15 dX6_share_93 (by decide) ?_
        rw [nI_1]
        first
          | (have z := ih (i + 1) (by omega) x5
             rw [show smB (shS (ln_n ln) (sc_kn c) k) (i + 1) = smB (shS (ln_n ln) (sc_kn c) k) i from by rw [smB, shS, if_pos b32]; rfl] at z
             exact z)
          | (have z := ih (i + 1) (by omega) (some (.int (nI (shw (ln_n ln) i))))
             rw [show smB (shS (ln_n ln) (sc_kn c) k) (i + 1) = smB (shS (ln_n ln) (sc_kn c) k) i + shw (ln_n ln) i * (pop (orB (i ||| 2 ^ k).testBit (sc_kn c) (ln_n ln)) - pop (orB (i).testBit (sc_kn c) (ln_n ln))) from by rw [smB, shS, if_neg (by rw [b32]; decide)]] at z
             exact z)
      · rw [bI_eq0] at b32
        have hps := sh_pop (ln_n ln) (by omega) k hk i (by omega) b32
        refine ro_iload dX6_share_35 rfl ?_
        refine ro_callS1 ok_X6_ones (cr_ones (by omega)) gX6_share_X6_ones (Nat.le_of_ble_eq_true rfl) (Nat.le_of_ble_eq_true rfl) dX6_share_37 ?_
        refine ro_callS1 ok_X6_factorial (cr_fact (by omega)) gX6_share_X6_factorial (Nat.le_of_ble_eq_true rfl) (Nat.le_of_ble_eq_true rfl) dX6_share_40 ?_
        refine ro_aload_n dX6_share_43 rfl rfl ?_
        refine gf_X6_houses  in_X6_share_X6 lk_X6_share_93 dX6_share_44 ?_
        rw [hL.1]
        refine ro_iconst (v := 1) dX6_share_47 (by decide) ?_
        refine ro_isub dX6_share_48 ?_
        refine ro_iload dX6_share_49 rfl ?_
        refine ro_callS1 ok_X6_ones (cr_ones (by omega)) gX6_share_X6_ones (Nat.le_of_ble_eq_true rfl) (Nat.le_of_ble_eq_true rfl) dX6_share_51 ?_
        refine ro_isub dX6_share_54 ?_
        refine ro_top (show _ = nI (ln_n ln - 1 - pop i) from by rw [show (1 : Int32) = nI 1 from rfl, pk_sub (by omega), pk_sub (by omega)]) ?_
        refine ro_callS1 ok_X6_factorial (cr_fact (by omega)) gX6_share_X6_factorial (Nat.le_of_ble_eq_true rfl) (Nat.le_of_ble_eq_true rfl) dX6_share_55 ?_
        refine ro_imul dX6_share_58 ?_
        refine ro_top (show _ = nI (shw (ln_n ln) i) from pk_mul _ _) ?_
        refine ro_istore5 dX6_share_59 (Nat.le_of_ble_eq_true rfl) rfl ?_
        refine ro_iload_n dX6_share_61 rfl rfl ?_
        refine ro_iload dX6_share_62 rfl ?_
        refine ro_aload_n dX6_share_64 rfl rfl ?_
        refine ro_iload dX6_share_65 rfl ?_
        refine ro_iconst (v := 1) dX6_share_67 (by decide) ?_
        refine ro_iload_n dX6_share_68 rfl rfl ?_
        refine ro_ishl dX6_share_69 ?_
        rw [sh_1 k (by omega)]
        refine ro_ior dX6_share_70 ?_
        rw [fa_or]
        refine ro_callV1 ok_X6_knownBy (cr_knownBy hL ok hS oc (hor i (by omega))) ce_X6 rfl rfl gX6_share_X6_knownBy (Nat.le_of_ble_eq_true rfl) (Nat.le_of_ble_eq_true rfl) dX6_share_71 ?_
        refine ro_callS1 ok_X6_ones (cr_ones (hK31 _)) gX6_share_X6_ones (Nat.le_of_ble_eq_true rfl) (Nat.le_of_ble_eq_true rfl) dX6_share_74 ?_
        refine ro_aload_n dX6_share_77 rfl rfl ?_
        refine ro_iload dX6_share_78 rfl ?_
        refine ro_callV1 ok_X6_knownBy (cr_knownBy hL ok hS oc (by omega)) ce_X6 rfl rfl gX6_share_X6_knownBy (Nat.le_of_ble_eq_true rfl) (Nat.le_of_ble_eq_true rfl) dX6_share_80 ?_
        refine ro_callS1 ok_X6_ones (cr_ones (hK31 _)) gX6_share_X6_ones (Nat.le_of_ble_eq_true rfl) (Nat.le_of_ble_eq_true rfl) dX6_share_83 ?_
        refine ro_isub dX6_share_86 ?_
        rw [pk_sub (by rw [sh_pops hk]; omega)]
        refine ro_imul dX6_share_87 ?_
        rw [pk_mul]
        refine ro_iadd dX6_share_88 ?_
        rw [nI_add]
        refine ro_istore_n3 dX6_share_89 (Nat.le_of_ble_eq_true rfl) rfl ?_
        refine ro_iincP4 dX6_share_90 (Nat.le_of_ble_eq_true rfl) rfl ?_
        refine ro_goto 15 dX6_share_93 (by decide) ?_
        rw [nI_1]
        first
          | (have z := ih (i + 1) (by omega) x5
             rw [show smB (shS (ln_n ln) (sc_kn c) k) (i + 1) = smB (shS (ln_n ln) (sc_kn c) k) i from by rw [smB, shS, if_pos b32]; rfl] at z
             exact z)
          | (have z := ih (i + 1) (by omega) (some (.int (nI (shw (ln_n ln) i))))
             rw [show smB (shS (ln_n ln) (sc_kn c) k) (i + 1) = smB (shS (ln_n ln) (sc_kn c) k) i + shw (ln_n ln) i * (pop (orB (i ||| 2 ^ k).testBit (sc_kn c) (ln_n ln)) - pop (orB (i).testBit (sc_kn c) (ln_n ln))) from by rw [smB, shS, if_neg (by rw [b32]; decide)]] at z
             exact z)
theorem cr_share {g : GT} {M : MM} {L : LL} {S : ST} {b : Nat} {x u : Int32} (h : RR M L S) (ok : StOK b S) : CTQ g mX6_share 2 [.ref (dq_A g 102), .int x, .int u] M L (QR M L (sp_share S x u)) := by
  have hL := h.1
  have hS : ScR (M 107) (17 * 0) (ln_n (st_l S)) (st_c S) := h.2.1
  have hA := h.2.2.2.2.1
  have okl := ok.2.2.1
  have oc := ok.2.2.2.1
  have a1 := okl.1
  have hb := ok.2.2.2.2.2.2.2
  have h64 := ok.1
  refine ct_of ok_X6_share (lv := [some (.ref (dq_A g 102)), some (.int x), some (.int u), none, none, none]) rfl (Nat.le_of_ble_eq_true rfl) ?_
  refine ro_aload_n dX6_share_0 rfl rfl ?_
  refine ro_iload_n dX6_share_1 rfl rfl ?_
  refine ro_callV1 ok_X6_isHouse (cr_isHouse hL okl x) ce_X6 rfl rfl gX6_share_X6_isHouse (Nat.le_of_ble_eq_true rfl) (Nat.le_of_ble_eq_true rfl) dX6_share_2 ?_
  refine ro_if_ne 10 dX6_share_5 (by decide) (fun b5 => ?_) (fun b5 => ?_)
  · rw [bI_ne0] at b5
    obtain ⟨k, hk, rfl⟩ := hB_some (by omega) b5
    refine ro_iconst (v := 0) dX6_share_10 (by decide) ?_
    refine ro_istore_n3 dX6_share_11 (Nat.le_of_ble_eq_true rfl) rfl ?_
    refine ro_iconst (v := 0) dX6_share_12 (by decide) ?_
    refine ro_istore4 dX6_share_13 (Nat.le_of_ble_eq_true rfl) rfl ?_
    refine JW.mono ?_ (lr_share (u := u) hL okl hS oc hk (2 ^ ln_n (st_l S)) 0 (by omega) none)
    rintro v M' L' ⟨rfl, rfl, rfl⟩
    refine ⟨?_, h, RScr.rf.all, rfl⟩
    rw [show sp_share S (nI k) u = (frI (shA (ln_n (st_l S)) (sc_kn (st_c S)) k 6) 60 u, S) from by unfold sp_share; rw [if_pos b5, kx_nI (by omega)]]
  · rw [bI_eq0] at b5
    refine ro_iconst (v := -1) dX6_share_8 (by decide) ?_
    refine ro_iret rfl dX6_share_9 ?_
    rw [show sp_share S x u = (-1, S) from by unfold sp_share; rw [if_neg (by rw [b5]; decide)]]
    exact ⟨rfl, h, RScr.rf.all, rfl⟩
