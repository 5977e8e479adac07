def dgF (n R : Nat) (p : Nat) : Nat := R / 10 ^ (3 * n - 1 - p) % 10
theorem dv10 (R k : Nat) : R / 10 ^ k / 10 = R / 10 ^ (k + 1) := by rw [Nat.div_div_eq_div_mul, ← Nat.pow_succ]
theorem lp_doings {g : GT} {L : LL} {n R : Nat} {z0 : Int64} {M0 : MM} (hn : n ≤ 4) (hR : R < 2 ^ 63) : ∀ (m : Nat) (M : MM), m ≤ 3 * n → OnlyB 4 4 M0 M → (∀ p, m ≤ p → p < 3 * n → M 4 p = nI (dgF n R p)) → JW g mX5_fillDoings 0 (fun v M' L' => v = some (.int (bI (decide (R < 10 ^ (3 * n))))) ∧ (∀ p, p < 3 * n → M' 4 p = nI (dgF n R p)) ∧ OnlyB 4 4 M0 M' ∧ L' = L) M L 10 [some (.ref (dq_A g 0)), some (.int (nI n)), some (.long z0), none, some (.long (lN (R / 10 ^ (3 * n - m)))), none, some (.int (oI ((m : Int) - 1)))] [] := by
  intro m
  induction m with
  | zero =>
    intro M hm ho hd
    refine ro_iload dX5_fillDoings_10 rfl ?_
    refine ro_if_lt 43 dX5_fillDoings_12 (by decide) (fun b12 => ?_) (fun b12 => ?_)
    · refine ro_lload dX5_fillDoings_43 rfl ?_
      refine ro_lconst (v := 0) dX5_fillDoings_45 (by decide) ?_
      refine ro_lcmp dX5_fillDoings_46 ?_
      refine ro_if_ne 54 dX5_fillDoings_47 (by decide) (fun b47 => ?_) (fun b47 => ?_)
      · rw [lg_cmp_eq] at b47
        refine ro_iconst (v := 0) dX5_fillDoings_54 (by decide) ?_
        refine ro_zret rfl rfl dX5_fillDoings_55 ?_
        have hz : lN (R / 10 ^ (3 * n - 0)) = 0 ↔ R < 10 ^ (3 * n) := by
          rw [Nat.sub_zero]
          have h1 : R / 10 ^ (3 * n) ≤ R := Nat.div_le_self _ _
          have h2 : 0 < 10 ^ (3 * n) := Nat.pow_pos (by decide)
          rw [show (0 : Int64) = lN 0 from rfl, pk_lEQ (by omega) (by decide), Nat.div_eq_zero_iff]
          omega
        refine ⟨?_, fun p hp => hd p (by omega) hp, ho, rfl⟩
        first
          | (rw [decide_eq_true (hz.mp b47)]; rfl)
          | (rw [decide_eq_false (fun y => b47 (hz.mpr y))]; rfl)
      · rw [lg_cmp_eq] at b47
        refine ro_iconst (v := 1) dX5_fillDoings_50 (by decide) ?_
        refine ro_goto 55 dX5_fillDoings_51 (by decide) ?_
        refine ro_zret rfl rfl dX5_fillDoings_55 ?_
        have hz : lN (R / 10 ^ (3 * n - 0)) = 0 ↔ R < 10 ^ (3 * n) := by
          rw [Nat.sub_zero]
          have h1 : R / 10 ^ (3 * n) ≤ R := Nat.div_le_self _ _
          have h2 : 0 < 10 ^ (3 * n) := Nat.pow_pos (by decide)
          rw [show (0 : Int64) = lN 0 from rfl, pk_lEQ (by omega) (by decide), Nat.div_eq_zero_iff]
          omega
        refine ⟨?_, fun p hp => hd p (by omega) hp, ho, rfl⟩
        first
          | (rw [decide_eq_true (hz.mp b47)]; rfl)
          | (rw [decide_eq_false (fun y => b47 (hz.mpr y))]; rfl)
    · exact absurd (by rw [show (0 : Int32) = oI 0 from rfl, oI_lt (by omega) (by omega) (by omega) (by omega)]; omega) b12
  | succ m ih =>
    intro M hm ho hd
    have hle : R / 10 ^ (3 * n - (m + 1)) ≤ R := Nat.div_le_self _ _
    rw [show oI (((m + 1 : Nat) : Int) - 1) = nI m from by rw [nI_oI]; congr 1; omega]
    refine ro_iload dX5_fillDoings_10 rfl ?_
    refine ro_if_lt 43 dX5_fillDoings_12 (by decide) (fun b12 => ?_) (fun b12 => ?_)
    · exact absurd b12 (nI_pos (by omega))
    · refine ro_aload_n dX5_fillDoings_15 rfl rfl ?_
      refine gf_X5_doings  in_X5_fillDoings_X5 lk_X5_fillDoings_23 dX5_fillDoings_16 ?_
      refine ro_iload dX5_fillDoings_19 rfl ?_
      refine ro_lload dX5_fillDoings_21 rfl ?_
      refine ro_ldc2 dX5_fillDoings_23 lk_X5_fillDoings_290 ?_
      refine ro_lrem dX5_fillDoings_26 (by decide) ?_
      rw [show (10 : Int64) = lN 10 from rfl, pk_lRem (by omega) (by decide) (by decide)]
      refine ro_l2i dX5_fillDoings_27 ?_
      rw [lN_i]
      refine ro_as ar_4 rfl (by omega) dX5_fillDoings_28 (fun M28 e28 => ?_)
      refine ro_lload dX5_fillDoings_29 rfl ?_
      refine ro_ldc2 dX5_fillDoings_31 lk_X5_fillDoings_290 ?_
      refine ro_ldiv dX5_fillDoings_34 (by decide) ?_
      rw [show (10 : Int64) = lN 10 from rfl, pk_lDiv (by omega) (by decide) (by decide), dv10, show 3 * n - (m + 1) + 1 = 3 * n - m by omega]
      refine ro_lstore4 dX5_fillDoings_35 (Nat.le_of_ble_eq_true rfl) rfl ?_
      refine ro_iincM6 dX5_fillDoings_37 (Nat.le_of_ble_eq_true rfl) rfl ?_
      refine ro_goto 10 dX5_fillDoings_40 (by decide) ?_
      rw [show nI m - 1 = oI ((m : Int) - 1) from by rw [nI_oI, show (1 : Int32) = oI 1 from rfl, oI_sub]]
      refine ih M28 (by omega) (ho.tr (OnlyB.up e28 (by decide) (by decide))) ?_
      intro p hp1 hp2
      rw [e28, va_up_self]
      by_cases hpm : p = m
      · subst hpm
        rw [pk_us, dgF, show 3 * n - 1 - p = 3 * n - (p + 1) by omega]
      · rw [pk_un hpm]
        exact hd p (by omega) hp2
theorem ct_doings {g : GT} {M : MM} {L : LL} {n R : Nat} (hn : n ≤ 4) (hR : R < 2 ^ 63) : CTQ g mX5_fillDoings 0 [.ref (dq_A g 0), .int (nI n), .long (lN R)] M L (fun v M' L' => v = some (.int (bI (decide (R < 10 ^ (3 * n))))) ∧ (∀ p, p < 3 * n → M' 4 p = nI (dgF n R p)) ∧ OnlyB 4 4 M M' ∧ L' = L) := by
  refine ct_of ok_X5_fillDoings (lv := [some (.ref (dq_A g 0)), some (.int (nI n)), some (.long (lN R)), none, none, none, none]) rfl (Nat.le_of_ble_eq_true rfl) ?_
  refine ro_lload_n dX5_fillDoings_0 rfl rfl ?_
  refine ro_lstore4 dX5_fillDoings_1 (Nat.le_of_ble_eq_true rfl) rfl ?_
  refine ro_iconst (v := 3) dX5_fillDoings_3 (by decide) ?_
  refine ro_iload_n dX5_fillDoings_4 rfl rfl ?_
  refine ro_imul dX5_fillDoings_5 ?_
  refine ro_iconst (v := 1) dX5_fillDoings_6 (by decide) ?_
  refine ro_isub dX5_fillDoings_7 ?_
  refine ro_istore6 dX5_fillDoings_8 (Nat.le_of_ble_eq_true rfl) rfl ?_
  rw [show (3 : Int32) * nI n - 1 = oI (((3 * n : Nat) : Int) - 1) from by rw [show (3 : Int32) = nI 3 from rfl, pk_mul, nI_oI, show (1 : Int32) = oI 1 from rfl, oI_sub]]
  have z := lp_doings (g := g) (L := L) (z0 := lN R) (M0 := M) hn hR (3 * n) M (Nat.le_refl _) OnlyB.rf (fun p h1 h2 => by omega)
  rw [Nat.sub_self, Nat.pow_zero, Nat.div_one] at z
  exact z
def actJ (l : LN) (c : SC) (a b d : Nat) : Bool × SC :=
  if a = 0 then (if b = 0 ∧ d = 0 then (true, nextC l c) else (false, c))
  else if a = 1 then (if b = 0 ∧ canL (ln_n l) c d = true then (true, lowC c d) else (false, c))
  else if a = 2 then (if b = 0 ∧ canR (ln_n l) c d = true then (true, raiC c d) else (false, c))
  else if a = 3 then (if canC (ln_n l) b d = true then (true, chgC c b d) else (false, c))
  else if a = 4 then (if b = 0 ∧ canP (ln_n l) d = true then (true, plaC c d) else (false, c))
  else if a = 5 then (decide (b < ln_n l) && (decide (d < 6) && (sc_kn c b).testBit d), c)
  else if a = 6 then (decide (b = 0) && decide (d ≤ sc_dry c), c)
  else (false, c)
theorem actJ_ok {l : LN} {b0 a b d : Nat} {c : SC} (ok : LnOK l) (oc : ScOK (ln_n l) b0 c) : ScOK (ln_n l) (b0 + 1) (actJ l c a b d).2 := by
  have oc1 : ScOK (ln_n l) (b0 + 1) c := oc.mono (Nat.le_succ _)
  unfold actJ
  split
  · split
    · exact nextC_ok ok oc
    · exact oc1
  split
  · split
    · next h => exact lowC_ok oc1 h.2
    · exact oc1
  split
  · split
    · next h => exact raiC_ok oc1 h.2
    · exact oc1
  split
  · split
    · next h => exact chgC_ok oc1 h
    · exact oc1
  split
  · split
    · exact plaC_ok oc1
    · exact oc1
  split
  · exact oc1
  split
  · exact oc1
  · exact oc1
theorem ct_comes {g : GT} {M : MM} {L : LL} {ln : LN} {c : SC} {b a mb d : Nat} (hL : LaneR M 16 ln) (ok : LnOK ln) (hS : SceneR M 34 c) (oc : ScOK (ln_n ln) b c) (hb : b < 2 ^ 30) (ha : a < 10) (hm : mb < 10) (hd : d < 10) : CTQ g mX5_comesAbout 5 [.ref (dq_A g 0), .int (nI a), .int (nI mb), .int (nI d)] M L (fun v M' L' => v = some (.int (bI (actJ ln c a mb d).1)) ∧ SceneR M' 34 (actJ ln c a mb d).2 ∧ OnlyB 34 37 M M' ∧ L' = L) := by
  have a1 := ok.1
  refine ct_of ok_X5_comesAbout (lv := [some (.ref (dq_A g 0)), some (.int (nI a)), some (.int (nI mb)), some (.int (nI d))]) rfl (Nat.le_of_ble_eq_true rfl) ?_
  refine ro_iload_n dX5_comesAbout_0 rfl rfl ?_
  have hsp : ((nI a).toInt < 0 ∨ 6 < (nI a).toInt) ∨ a = 0 ∨ a = 1 ∨ a = 2 ∨ a = 3 ∨ a = 4 ∨ a = 5 ∨ a = 6 := by
    rw [nI_toInt (by omega)]
    omega
  rcases hsp with hsw | rfl | rfl | rfl | rfl | rfl | rfl | rfl
  · refine ro_tableOut 194 dX5_comesAbout_1 hsw (by decide) ?_
    refine ro_iconst (v := 0) dX5_comesAbout_194 (by decide) ?_
    refine ro_zret rfl rfl dX5_comesAbout_195 ?_
    have hn2 : ∀ q : Nat, q < 7 → ¬ a = q := fun q hq z => by
      subst z
      rw [nI_toInt (by omega)] at hsw
      omega
    unfold actJ
    rw [if_neg (hn2 0 (by decide)), if_neg (hn2 1 (by decide)), if_neg (hn2 2 (by decide)), if_neg (hn2 3 (by decide)), if_neg (hn2 4 (by decide)), if_neg (hn2 5 (by decide)), if_neg (hn2 6 (by decide))]
    exact ⟨rfl, hS, OnlyB.rf, rfl⟩
  · refine ro_tableIn 44 dX5_comesAbout_1 (by decide) (by decide) rfl (by decide) ?_
    refine ro_iload_n dX5_comesAbout_44 rfl rfl ?_
    refine ro_if_ne 52 dX5_comesAbout_45 (by decide) (fun b45 => ?_) (fun b45 => ?_)
    · replace b45 : ¬ mb = 0 := fun z => b45 (by rw [z]; rfl)
      refine ro_iconst (v := 0) dX5_comesAbout_52 (by decide) ?_
      refine ro_zret rfl rfl dX5_comesAbout_53 ?_
      unfold actJ
      rw [if_pos (show (0 : Nat) = 0 from rfl)]
      rw [if_neg (by omega)]
      exact ⟨rfl, hS, OnlyB.rf, rfl⟩
    · replace b45 : mb = 0 := (nI_eq (b := 0) (by omega) (by decide)).mp b45
      refine ro_iload_n dX5_comesAbout_48 rfl rfl ?_
      refine ro_if_eq 54 dX5_comesAbout_49 (by decide) (fun b49 => ?_) (fun b49 => ?_)
      · replace b49 : d = 0 := (nI_eq (b := 0) (by omega) (by decide)).mp b49
        refine ro_aload_n dX5_comesAbout_54 rfl rfl ?_
        refine gf_X5_trial  in_X5_comesAbout_X5 lk_X5_comesAbout_56 dX5_comesAbout_55 ?_
        refine ro_callV0Q ok_X4_passHour (ct_passHour sc_34 hL ok hS oc hb) (ce_X4 sc_34) rfl rfl gX5_comesAbout_X4_passHour (Nat.le_of_ble_eq_true rfl) (Nat.le_of_ble_eq_true rfl) dX5_comesAbout_58 (fun v58 M58 L58 q58 => ?_)
        obtain ⟨rfl, hS58, ho58, rfl⟩ := q58
        refine ro_pop dX5_comesAbout_61 rfl ?_
        refine ro_iconst (v := 1) dX5_comesAbout_62 (by decide) ?_
        refine ro_zret rfl rfl dX5_comesAbout_63 ?_
        unfold actJ
        rw [if_pos (show (0 : Nat) = 0 from rfl)]
        rw [if_pos ⟨b45, b49⟩]
        exact ⟨rfl, hS58, ho58, rfl⟩
      · replace b49 : ¬ d = 0 := fun z => b49 (by rw [z]; rfl)
        refine ro_iconst (v := 0) dX5_comesAbout_52 (by decide) ?_
        refine ro_zret rfl rfl dX5_comesAbout_53 ?_
        unfold actJ
        rw [if_pos (show (0 : Nat) = 0 from rfl)]
        rw [if_neg (by omega)]
        exact ⟨rfl, hS, OnlyB.rf, rfl⟩
  · refine ro_tableIn 64 dX5_comesAbout_1 (by decide) (by decide) rfl (by decide) ?_
    refine ro_iload_n dX5_comesAbout_64 rfl rfl ?_
    refine ro_if_ne 83 dX5_comesAbout_65 (by decide) (fun b65 => ?_) (fun b65 => ?_)
    · replace b65 : ¬ mb = 0 := fun z => b65 (by rw [z]; rfl)
      refine ro_iconst (v := 0) dX5_comesAbout_83 (by decide) ?_
      refine ro_zret rfl rfl dX5_comesAbout_84 ?_
      unfold actJ
      rw [if_neg (show ¬ (1 : Nat) = 0 by decide), if_pos (show (1 : Nat) = 1 from rfl)]
      first
        | (rw [if_pos ⟨b65, b76⟩]
           rw [if_pos b76] at hS73
           exact ⟨rfl, hS73, ho73, rfl⟩)
        | (rw [if_neg (fun z => by rw [b76] at z; exact absurd z.2 (by decide))]
           rw [if_neg (by rw [b76]; decide)] at hS73
           exact ⟨rfl, hS73, ho73, rfl⟩)
        | (rw [if_neg (fun z => b65 z.1)]
           exact ⟨rfl, hS, OnlyB.rf, rfl⟩)
    · replace b65 : mb = 0 := (nI_eq (b := 0) (by omega) (by decide)).mp b65
      refine ro_aload_n dX5_comesAbout_68 rfl rfl ?_
      refine gf_X5_trial  in_X5_comesAbout_X5 lk_X5_comesAbout_56 dX5_comesAbout_69 ?_
      refine ro_iload_n dX5_comesAbout_72 rfl rfl ?_
      refine ro_callV1Q ok_X4_tryLowered (ct_tryL sc_34 hL ok hS oc hb (by omega)) (ce_X4 sc_34) rfl rfl gX5_comesAbout_X4_tryLowered (Nat.le_of_ble_eq_true rfl) (Nat.le_of_ble_eq_true rfl) dX5_comesAbout_73 (fun v73 M73 L73 q73 => ?_)
      obtain ⟨rfl, hS73, ho73, rfl⟩ := q73
      refine ro_if_eq 83 dX5_comesAbout_76 (by decide) (fun b76 => ?_) (fun b76 => ?_)
      · rw [bI_eq0] at b76
        refine ro_iconst (v := 0) dX5_comesAbout_83 (by decide) ?_
        refine ro_zret rfl rfl dX5_comesAbout_84 ?_
        unfold actJ
        rw [if_neg (show ¬ (1 : Nat) = 0 by decide), if_pos (show (1 : Nat) = 1 from rfl)]
        first
          | (rw [if_pos ⟨b65, b76⟩]
             rw [if_pos b76] at hS73
             exact ⟨rfl, hS73, ho73, rfl⟩)
          | (rw [if_neg (fun z => by rw [b76] at z; exact absurd z.2 (by decide))]
             rw [if_neg (by rw [b76]; decide)] at hS73
             exact ⟨rfl, hS73, ho73, rfl⟩)
          | (rw [if_neg (fun z => b65 z.1)]
             exact ⟨rfl, hS, OnlyB.rf, rfl⟩)
      · rw [bI_ne0] at b76
        refine ro_iconst (v := 1) dX5_comesAbout_79 (by decide) ?_
        refine ro_goto 84 dX5_comesAbout_80 (by decide) ?_
        refine ro_zret rfl rfl dX5_comesAbout_84 ?_
        unfold actJ
        rw [if_neg (show ¬ (1 : Nat) = 0 by decide), if_pos (show (1 : Nat) = 1 from rfl)]
        first
          | (rw [if_pos ⟨b65, b76⟩]
             rw [if_pos b76] at hS73
             exact ⟨rfl, hS73, ho73, rfl⟩)
          | (rw [if_neg (fun z => by rw [b76] at z; exact absurd z.2 (by decide))]
             rw [if_neg (by rw [b76]; decide)] at hS73
             exact ⟨rfl, hS73, ho73, rfl⟩)
          | (rw [if_neg (fun z => b65 z.1)]
             exact ⟨rfl, hS, OnlyB.rf, rfl⟩)
  · refine ro_tableIn 85 dX5_comesAbout_1 (by decide) (by decide) rfl (by decide) ?_
    refine ro_iload_n dX5_comesAbout_85 rfl rfl ?_
    refine ro_if_ne 104 dX5_comesAbout_86 (by decide) (fun b86 => ?_) (fun b86 => ?_)
    · replace b86 : ¬ mb = 0 := fun z => b86 (by rw [z]; rfl)
      refine ro_iconst (v := 0) dX5_comesAbout_104 (by decide) ?_
      refine ro_zret rfl rfl dX5_comesAbout_105 ?_
      unfold actJ
      rw [if_neg (show ¬ (2 : Nat) = 0 by decide), if_neg (show ¬ (2 : Nat) = 1 by decide), if_pos (show (2 : Nat) = 2 from rfl)]
      first
        | (rw [if_pos ⟨b86, b97⟩]
           rw [if_pos b97] at hS94
           exact ⟨rfl, hS94, ho94, rfl⟩)
        | (rw [if_neg (fun z => by rw [b97] at z; exact absurd z.2 (by decide))]
           rw [if_neg (by rw [b97]; decide)] at hS94
           exact ⟨rfl, hS94, ho94, rfl⟩)
        | (rw [if_neg (fun z => b86 z.1)]
           exact ⟨rfl, hS, OnlyB.rf, rfl⟩)
    · replace b86 : mb = 0 := (nI_eq (b := 0) (by omega) (by decide)).mp b86
      refine ro_aload_n dX5_comesAbout_89 rfl rfl ?_
      refine gf_X5_trial  in_X5_comesAbout_X5 lk_X5_comesAbout_56 dX5_comesAbout_90 ?_
      refine ro_iload_n dX5_comesAbout_93 rfl rfl ?_
      refine ro_callV1Q ok_X4_tryRaised (ct_tryR sc_34 hL ok hS oc hb (by omega)) (ce_X4 sc_34) rfl rfl gX5_comesAbout_X4_tryRaised (Nat.le_of_ble_eq_true rfl) (Nat.le_of_ble_eq_true rfl) dX5_comesAbout_94 (fun v94 M94 L94 q94 => ?_)
      obtain ⟨rfl, hS94, ho94, rfl⟩ := q94
      refine ro_if_eq 104 dX5_comesAbout_97 (by decide) (fun b97 => ?_) (fun b97 => ?_)
      · rw [bI_eq0] at b97
        refine ro_iconst (v := 0) dX5_comesAbout_104 (by decide) ?_
        refine ro_zret rfl rfl dX5_comesAbout_105 ?_
        unfold actJ
        rw [if_neg (show ¬ (2 : Nat) = 0 by decide), if_neg (show ¬ (2 : Nat) = 1 by decide), if_pos (show (2 : Nat) = 2 from rfl)]
        first
          | (rw [if_pos ⟨b86, b97⟩]
             rw [if_pos b97] at hS94
             exact ⟨rfl, hS94, ho94, rfl⟩)
          | (rw [if_neg (fun z => by rw [b97] at z; exact absurd z.2 (by decide))]
             rw [if_neg (by rw [b97]; decide)] at hS94
             exact ⟨rfl, hS94, ho94, rfl⟩)
          | (rw [if_neg (fun z => b86 z.1)]
             exact ⟨rfl, hS, OnlyB.rf, rfl⟩)
      · rw [bI_ne0] at b97
        refine ro_iconst (v := 1) dX5_comesAbout_100 (by decide) ?_
        refine ro_goto 105 dX5_comesAbout_101 (by decide) ?_
        refine ro_zret rfl rfl dX5_comesAbout_105 ?_
        unfold actJ
        rw [if_neg (show ¬ (2 : Nat) = 0 by decide), if_neg (show ¬ (2 : Nat) = 1 by decide), if_pos (show (2 : Nat) = 2 from rfl)]
        first
          | (rw [if_pos ⟨b86, b97⟩]
             rw [if_pos b97] at hS94
             exact ⟨rfl, hS94, ho94, rfl⟩)
          | (rw [if_neg (fun z => by rw [b97] at z; exact absurd z.2 (by decide))]
             rw [if_neg (by rw [b97]; decide)] at hS94
             exact ⟨rfl, hS94, ho94, rfl⟩)
          | (rw [if_neg (fun z => b86 z.1)]
             exact ⟨rfl, hS, OnlyB.rf, rfl⟩)
  · refine ro_tableIn 106 dX5_comesAbout_1 (by decide) (by decide) rfl (by decide) ?_
    refine ro_aload_n dX5_comesAbout_106 rfl rfl ?_
    refine gf_X5_trial  in_X5_comesAbout_X5 lk_X5_comesAbout_56 dX5_comesAbout_107 ?_
    refine ro_iload_n dX5_comesAbout_110 rfl rfl ?_
    refine ro_iload_n dX5_comesAbout_111 rfl rfl ?_
    refine ro_callV2Q ok_X4_tryChanged (ct_tryC sc_34 hL ok hS oc hb (by omega) (by omega)) (ce_X4 sc_34) rfl rfl gX5_comesAbout_X4_tryChanged (Nat.le_of_ble_eq_true rfl) (Nat.le_of_ble_eq_true rfl) dX5_comesAbout_112 (fun v112 M112 L112 q112 => ?_)
    obtain ⟨rfl, hS112, ho112, rfl⟩ := q112
    refine ro_zret rfl (bI_nar _) dX5_comesAbout_115 ?_
    unfold actJ
    rw [if_neg (show ¬ (3 : Nat) = 0 by decide), if_neg (show ¬ (3 : Nat) = 1 by decide), if_neg (show ¬ (3 : Nat) = 2 by decide), if_pos (show (3 : Nat) = 3 from rfl)]
    by_cases hc : canC (ln_n ln) mb d = true
    · rw [if_pos hc] at hS112 ⊢
      exact ⟨by rw [hc], hS112, ho112, rfl⟩
    · rw [if_neg hc] at hS112 ⊢
      exact ⟨by rw [Bool.eq_false_iff.mpr hc], hS112, ho112, rfl⟩
  · refine ro_tableIn 116 dX5_comesAbout_1 (by decide) (by decide) rfl (by decide) ?_
    refine ro_iload_n dX5_comesAbout_116 rfl rfl ?_
    refine ro_if_ne 135 dX5_comesAbout_117 (by decide) (fun b117 => ?_) (fun b117 => ?_)
    · replace b117 : ¬ mb = 0 := fun z => b117 (by rw [z]; rfl)
      refine ro_iconst (v := 0) dX5_comesAbout_135 (by decide) ?_
      refine ro_zret rfl rfl dX5_comesAbout_136 ?_
      unfold actJ
      rw [if_neg (show ¬ (4 : Nat) = 0 by decide), if_neg (show ¬ (4 : Nat) = 1 by decide), if_neg (show ¬ (4 : Nat) = 2 by decide), if_neg (show ¬ (4 : Nat) = 3 by decide), if_pos (show (4 : Nat) = 4 from rfl)]
      first
        | (rw [if_pos ⟨b117, b128⟩]
           rw [if_pos b128] at hS125
           exact ⟨rfl, hS125, ho125, rfl⟩)
        | (rw [if_neg (fun z => by rw [b128] at z; exact absurd z.2 (by decide))]
           rw [if_neg (by rw [b128]; decide)] at hS125
           exact ⟨rfl, hS125, ho125, rfl⟩)
        | (rw [if_neg (fun z => b117 z.1)]
           exact ⟨rfl, hS, OnlyB.rf, rfl⟩)
    · replace b117 : mb = 0 := (nI_eq (b := 0) (by omega) (by decide)).mp b117
      refine ro_aload_n dX5_comesAbout_120 rfl rfl ?_
      refine gf_X5_trial  in_X5_comesAbout_X5 lk_X5_comesAbout_56 dX5_comesAbout_121 ?_
      refine ro_iload_n dX5_comesAbout_124 rfl rfl ?_
      refine ro_callV1Q ok_X4_tryPlate (ct_tryP sc_34 hL ok hS oc hb (by omega)) (ce_X4 sc_34) rfl rfl gX5_comesAbout_X4_tryPlate (Nat.le_of_ble_eq_true rfl) (Nat.le_of_ble_eq_true rfl) dX5_comesAbout_125 (fun v125 M125 L125 q125 => ?_)
      obtain ⟨rfl, hS125, ho125, rfl⟩ := q125
      refine ro_if_eq 135 dX5_comesAbout_128 (by decide) (fun b128 => ?_) (fun b128 => ?_)
      · rw [bI_eq0] at b128
        refine ro_iconst (v := 0) dX5_comesAbout_135 (by decide) ?_
        refine ro_zret rfl rfl dX5_comesAbout_136 ?_
        unfold actJ
        rw [if_neg (show ¬ (4 : Nat) = 0 by decide), if_neg (show ¬ (4 : Nat) = 1 by decide), if_neg (show ¬ (4 : Nat) = 2 by decide), if_neg (show ¬ (4 : Nat) = 3 by decide), if_pos (show (4 : Nat) = 4 from rfl)]
        first
          | (rw [if_pos ⟨b117, b128⟩]
             rw [if_pos b128] at hS125
             exact ⟨rfl, hS125, ho125, rfl⟩)
          | (rw [if_neg (fun z => by rw [b128] at z; exact absurd z.2 (by decide))]
             rw [if_neg (by rw [b128]; decide)] at hS125
             exact ⟨rfl, hS125, ho125, rfl⟩)
          | (rw [if_neg (fun z => b117 z.1)]
             exact ⟨rfl, hS, OnlyB.rf, rfl⟩)
      · rw [bI_ne0] at b128
        refine ro_iconst (v := 1) dX5_comesAbout_131 (by decide) ?_
        refine ro_goto 136 dX5_comesAbout_132 (by decide) ?_
        refine ro_zret rfl rfl dX5_comesAbout_136 ?_
        unfold actJ
        rw [if_neg (show ¬ (4 : Nat) = 0 by decide), if_neg (show ¬ (4 : Nat) = 1 by decide), if_neg (show ¬ (4 : Nat) = 2 by decide), if_neg (show ¬ (4 : Nat) = 3 by decide), if_pos (show (4 : Nat) = 4 from rfl)]
        first
          | (rw [if_pos ⟨b117, b128⟩]
             rw [if_pos b128] at hS125
             exact ⟨rfl, hS125, ho125, rfl⟩)
          | (rw [if_neg (fun z => by rw [b128] at z; exact absurd z.2 (by decide))]
             rw [if_neg (by rw [b128]; decide)] at hS125
             exact ⟨rfl, hS125, ho125, rfl⟩)
          | (rw [if_neg (fun z => b117 z.1)]
             exact ⟨rfl, hS, OnlyB.rf, rfl⟩)
  · refine ro_tableIn 137 dX5_comesAbout_1 (by decide) (by decide) rfl (by decide) ?_
    refine ro_aload_n dX5_comesAbout_137 rfl rfl ?_
    refine gf_X5_told  in_X5_comesAbout_X5 lk_X5_comesAbout_38 dX5_comesAbout_138 ?_
    refine ro_iload_n dX5_comesAbout_141 rfl rfl ?_
    refine ro_callV1 ok_X2_hasHouse (ct_hasHouse ln_16 hL.1 (nI mb)) (ce_X2 ln_16) rfl rfl gX5_comesAbout_X2_hasHouse (Nat.le_of_ble_eq_true rfl) (Nat.le_of_ble_eq_true rfl) dX5_comesAbout_142 ?_
    rw [hB_nI (by omega) (by omega)]
    refine ro_if_eq 171 dX5_comesAbout_145 (by decide) (fun b145 => ?_) (fun b145 => ?_)
    · rw [bI_eq0] at b145
      refine ro_iconst (v := 0) dX5_comesAbout_171 (by decide) ?_
      refine ro_zret rfl rfl dX5_comesAbout_172 ?_
      unfold actJ
      rw [if_neg (show ¬ (5 : Nat) = 0 by decide), if_neg (show ¬ (5 : Nat) = 1 by decide), if_neg (show ¬ (5 : Nat) = 2 by decide), if_neg (show ¬ (5 : Nat) = 3 by decide), if_neg (show ¬ (5 : Nat) = 4 by decide), if_pos (show (5 : Nat) = 5 from rfl)]
      refine ⟨?_, hS, OnlyB.rf, rfl⟩
      first
        | (rw [b145]; rfl)
        | (rw [b145, b152]; rfl)
        | (rw [b145, b152q, b164]; rfl)
    · rw [bI_ne0] at b145
      have b145q := decide_eq_true_eq.mp b145
      refine ro_iload_n dX5_comesAbout_148 rfl rfl ?_
      refine ro_callS1 ok_X5_isThing (ct_isThing (nI d)) gX5_comesAbout_X5_isThing (Nat.le_of_ble_eq_true rfl) (Nat.le_of_ble_eq_true rfl) dX5_comesAbout_149 ?_
      rw [hB_nI (by omega) (by omega)]
      refine ro_if_eq 171 dX5_comesAbout_152 (by decide) (fun b152 => ?_) (fun b152 => ?_)
      · rw [bI_eq0] at b152
        refine ro_iconst (v := 0) dX5_comesAbout_171 (by decide) ?_
        refine ro_zret rfl rfl dX5_comesAbout_172 ?_
        unfold actJ
        rw [if_neg (show ¬ (5 : Nat) = 0 by decide), if_neg (show ¬ (5 : Nat) = 1 by decide), if_neg (show ¬ (5 : Nat) = 2 by decide), if_neg (show ¬ (5 : Nat) = 3 by decide), if_neg (show ¬ (5 : Nat) = 4 by decide), if_pos (show (5 : Nat) = 5 from rfl)]
        refine ⟨?_, hS, OnlyB.rf, rfl⟩
        first
          | (rw [b145]; rfl)
          | (rw [b145, b152]; rfl)
          | (rw [b145, b152q, b164]; rfl)
      · rw [bI_ne0] at b152
        have b152q := b152
        rw [decide_eq_true_eq] at b152
        refine ro_aload_n dX5_comesAbout_155 rfl rfl ?_
        refine gf_X5_trial  in_X5_comesAbout_X5 lk_X5_comesAbout_56 dX5_comesAbout_156 ?_
        refine ro_iload_n dX5_comesAbout_159 rfl rfl ?_
        refine ro_iload_n dX5_comesAbout_160 rfl rfl ?_
        refine ro_callV2 ok_X4_knowsThing (ct_knowsThing sc_34 hS oc.2.2.1 (by omega) b152) (ce_X4 sc_34) rfl rfl gX5_comesAbout_X4_knowsThing (Nat.le_of_ble_eq_true rfl) (Nat.le_of_ble_eq_true rfl) dX5_comesAbout_161 ?_
        refine ro_if_eq 171 dX5_comesAbout_164 (by decide) (fun b164 => ?_) (fun b164 => ?_)
        · rw [bI_eq0] at b164
          refine ro_iconst (v := 0) dX5_comesAbout_171 (by decide) ?_
          refine ro_zret rfl rfl dX5_comesAbout_172 ?_
          unfold actJ
          rw [if_neg (show ¬ (5 : Nat) = 0 by decide), if_neg (show ¬ (5 : Nat) = 1 by decide), if_neg (show ¬ (5 : Nat) = 2 by decide), if_neg (show ¬ (5 : Nat) = 3 by decide), if_neg (show ¬ (5 : Nat) = 4 by decide), if_pos (show (5 : Nat) = 5 from rfl)]
          refine ⟨?_, hS, OnlyB.rf, rfl⟩
          first
            | (rw [b145]; rfl)
            | (rw [b145, b152]; rfl)
            | (rw [b145, b152q, b164]; rfl)
        · rw [bI_ne0] at b164
          refine ro_iconst (v := 1) dX5_comesAbout_167 (by decide) ?_
          refine ro_goto 172 dX5_comesAbout_168 (by decide) ?_
          refine ro_zret rfl rfl dX5_comesAbout_172 ?_
          unfold actJ
          rw [if_neg (show ¬ (5 : Nat) = 0 by decide), if_neg (show ¬ (5 : Nat) = 1 by decide), if_neg (show ¬ (5 : Nat) = 2 by decide), if_neg (show ¬ (5 : Nat) = 3 by decide), if_neg (show ¬ (5 : Nat) = 4 by decide), if_pos (show (5 : Nat) = 5 from rfl)]
          refine ⟨?_, hS, OnlyB.rf, rfl⟩
          first
            | (rw [b145]; rfl)
            | (rw [b145, b152]; rfl)
            | (rw [b145, b152q, b164]; rfl)
  · refine ro_tableIn 173 dX5_comesAbout_1 (by decide) (by decide) rfl (by decide) ?_
    refine ro_iload_n dX5_comesAbout_173 rfl rfl ?_
    refine ro_if_ne 192 dX5_comesAbout_174 (by decide) (fun b174 => ?_) (fun b174 => ?_)
    · replace b174 : ¬ mb = 0 := fun z => b174 (by rw [z]; rfl)
      refine ro_iconst (v := 0) dX5_comesAbout_192 (by decide) ?_
      refine ro_zret rfl rfl dX5_comesAbout_193 ?_
      unfold actJ
      rw [if_neg (show ¬ (6 : Nat) = 0 by decide), if_neg (show ¬ (6 : Nat) = 1 by decide), if_neg (show ¬ (6 : Nat) = 2 by decide), if_neg (show ¬ (6 : Nat) = 3 by decide), if_neg (show ¬ (6 : Nat) = 4 by decide), if_neg (show ¬ (6 : Nat) = 5 by decide), if_pos (show (6 : Nat) = 6 from rfl)]
      refine ⟨?_, hS, OnlyB.rf, rfl⟩
      first
        | (rw [decide_eq_false b174]; rfl)
        | (rw [decide_eq_true b174, decide_eq_false (by omega)]; rfl)
        | (rw [decide_eq_true b174, decide_eq_true (by omega)]; rfl)
    · replace b174 : mb = 0 := (nI_eq (b := 0) (by omega) (by decide)).mp b174
      refine ro_aload_n dX5_comesAbout_177 rfl rfl ?_
      refine gf_X5_trial  in_X5_comesAbout_X5 lk_X5_comesAbout_56 dX5_comesAbout_178 ?_
      refine gf_X4_dry sc_34 in_X5_comesAbout_X4 lk_X5_comesAbout_271 dX5_comesAbout_181 ?_
      rw [hS.2.2.2.1]
      refine ro_iload_n dX5_comesAbout_184 rfl rfl ?_
      refine ro_icmp_lt 192 dX5_comesAbout_185 (by decide) (fun b185 => ?_) (fun b185 => ?_)
      · rw [nI_ltI (by have := oc.2.2.2.2.1; omega) (by omega)] at b185
        refine ro_iconst (v := 0) dX5_comesAbout_192 (by decide) ?_
        refine ro_zret rfl rfl dX5_comesAbout_193 ?_
        unfold actJ
        rw [if_neg (show ¬ (6 : Nat) = 0 by decide), if_neg (show ¬ (6 : Nat) = 1 by decide), if_neg (show ¬ (6 : Nat) = 2 by decide), if_neg (show ¬ (6 : Nat) = 3 by decide), if_neg (show ¬ (6 : Nat) = 4 by decide), if_neg (show ¬ (6 : Nat) = 5 by decide), if_pos (show (6 : Nat) = 6 from rfl)]
        refine ⟨?_, hS, OnlyB.rf, rfl⟩
        first
          | (rw [decide_eq_false b174]; rfl)
          | (rw [decide_eq_true b174, decide_eq_false (by omega)]; rfl)
          | (rw [decide_eq_true b174, decide_eq_true (by omega)]; rfl)
      · rw [nI_ltI (by have := oc.2.2.2.2.1; omega) (by omega)] at b185
        refine ro_iconst (v := 1) dX5_comesAbout_188 (by decide) ?_
        refine ro_goto 193 dX5_comesAbout_189 (by decide) ?_
        refine ro_zret rfl rfl dX5_comesAbout_193 ?_
        unfold actJ
        rw [if_neg (show ¬ (6 : Nat) = 0 by decide), if_neg (show ¬ (6 : Nat) = 1 by decide), if_neg (show ¬ (6 : Nat) = 2 by decide), if_neg (show ¬ (6 : Nat) = 3 by decide), if_neg (show ¬ (6 : Nat) = 4 by decide), if_neg (show ¬ (6 : Nat) = 5 by decide), if_pos (show (6 : Nat) = 6 from rfl)]
        refine ⟨?_, hS, OnlyB.rf, rfl⟩
        first
          | (rw [decide_eq_false b174]; rfl)
          | (rw [decide_eq_true b174, decide_eq_false (by omega)]; rfl)
          | (rw [decide_eq_true b174, decide_eq_true (by omega)]; rfl)
def jdgF (l : LN) (dg : Nat → Nat) : Nat → Nat → SC → Int32
  | 0, _, _ => -9
  | f + 1, i, c => if (actJ l c (dg (3 * i)) (dg (3 * i + 1)) (dg (3 * i + 2))).1 = true then jdgF l dg f (i + 1) (actJ l c (dg (3 * i)) (dg (3 * i + 1)) (dg (3 * i + 2))).2 else nI i
def kz (z : Int64) : Nat := z.toInt.toNat
theorem kz_lN {k : Nat} (h : k < 2 ^ 63) : kz (lN k) = k := by
  unfold kz
  rw [pk_lT h]
  rfl
noncomputable def sp_judge (S : ST) (x : Int32) (z : Int64) : Int32 × ST := (if ¬ x < 1 ∧ ¬ 4 < x ∧ ¬ z < 0 ∧ kz z < 10 ^ (3 * kx x) then jdgF (st_l S) (dgF (kx x) (kz z)) (kx x) 0 (st_c S) else -2, S)
theorem lp_judge {g : GT} {L : LL} {ln : LN} {b n : Nat} {dg : Nat → Nat} {z0 : Int64} {c0 : SC} {M0 : MM} (ok : LnOK ln) (hn : n ≤ 4) (h10 : ∀ p, dg p < 10) (hb : b < 2 ^ 29) : ∀ (f i : Nat), i + f = n → ∀ (M : MM) (c : SC) (x5 : Option Value), LaneR M 16 ln → SceneR M 34 c → ScOK (ln_n ln) (b + i) c → OnlyB 34 37 M0 M → (∀ p, p < 3 * n → M 4 p = nI (dg p)) → jdgF ln dg n 0 c0 = jdgF ln dg f i c → JW g mX5_judge 6 (fun v M' L' => v = some (.int (jdgF ln dg n 0 c0)) ∧ OnlyB 34 37 M0 M' ∧ L' = L) M L 42 [some (.ref (dq_A g 0)), some (.int (nI n)), some (.long z0), none, some (.int (nI i)), x5] [] := by
  intro f
  induction f with
  | zero =>
    intro i hi M c x5 hL hS oc ho hd hf
    refine ro_iload dX5_judge_42 rfl ?_
    refine ro_iload_n dX5_judge_44 rfl rfl ?_
    refine ro_icmp_ge 95 dX5_judge_45 (by decide) (fun b45 => ?_) (fun b45 => ?_)
    · refine ro_bipush (v := -9) dX5_judge_95 (by decide) ?_
      refine ro_iret rfl dX5_judge_97 ?_
      exact ⟨by rw [hf]; rfl, ho, rfl⟩
    · exact absurd (nI_le (by omega) (by omega)) b45
  | succ f ih =>
    intro i hi M c x5 hL hS oc ho hd hf
    refine ro_iload dX5_judge_42 rfl ?_
    refine ro_iload_n dX5_judge_44 rfl rfl ?_
    refine ro_icmp_ge 95 dX5_judge_45 (by decide) (fun b45 => ?_) (fun b45 => ?_)
    · exact absurd b45 (nI_ge (by omega) (by omega))
    · refine ro_iconst (v := 3) dX5_judge_48 (by decide) ?_
      refine ro_iload dX5_judge_49 rfl ?_
      refine ro_imul dX5_judge_51 ?_
      rw [show (3 : Int32) * nI i = nI (3 * i) from by rw [show (3 : Int32) = nI 3 from rfl, pk_mul]]
      refine ro_istore5 dX5_judge_52 (Nat.le_of_ble_eq_true rfl) rfl ?_
      refine ro_aload_n dX5_judge_54 rfl rfl ?_
      refine ro_aload_n dX5_judge_55 rfl rfl ?_
      refine gf_X5_doings  in_X5_judge_X5 lk_X5_judge_23 dX5_judge_56 ?_
      refine ro_iload dX5_judge_59 rfl ?_
      refine ro_ai ar_4 rfl (by omega) dX5_judge_61 ?_
      rw [hd (3 * i) (by omega)]
      refine ro_aload_n dX5_judge_62 rfl rfl ?_
      refine gf_X5_doings  in_X5_judge_X5 lk_X5_judge_23 dX5_judge_63 ?_
      refine ro_iload dX5_judge_66 rfl ?_
      refine ro_iconst (v := 1) dX5_judge_68 (by decide) ?_
      refine ro_iadd dX5_judge_69 ?_
      rw [nI_1]
      refine ro_ai ar_4 rfl (by omega) dX5_judge_70 ?_
      rw [hd (3 * i + 1) (by omega)]
      refine ro_aload_n dX5_judge_71 rfl rfl ?_
      refine gf_X5_doings  in_X5_judge_X5 lk_X5_judge_23 dX5_judge_72 ?_
      refine ro_iload dX5_judge_75 rfl ?_
      refine ro_iconst (v := 2) dX5_judge_77 (by decide) ?_
      refine ro_iadd dX5_judge_78 ?_
      rw [show nI (3 * i) + 2 = nI (3 * i + 2) from nI_add _ 2]
      refine ro_ai ar_4 rfl (by omega) dX5_judge_79 ?_
      rw [hd (3 * i + 2) (by omega)]
      refine ro_callV3Q ok_X5_comesAbout (ct_comes hL ok hS oc (by omega) (h10 _) (h10 _) (h10 _)) ce_X5 rfl rfl gX5_judge_X5_comesAbout (Nat.le_of_ble_eq_true rfl) (Nat.le_of_ble_eq_true rfl) dX5_judge_80 (fun v80 M80 L80 q80 => ?_)
      obtain ⟨rfl, hS80, ho80, rfl⟩ := q80
      refine ro_if_ne 89 dX5_judge_83 (by decide) (fun b83 => ?_) (fun b83 => ?_)
      · rw [bI_ne0] at b83
        refine ro_iincP4 dX5_judge_89 (Nat.le_of_ble_eq_true rfl) rfl ?_
        refine ro_goto 42 dX5_judge_92 (by decide) ?_
        rw [nI_1]
        exact ih (i + 1) (by omega) M80 _ _ (hL.kS sc_34 ho80) hS80 (actJ_ok ok oc) (ho.tr ho80) (fun p hp => by rw [ho80 4 (by omega)]; exact hd p hp) (by rw [hf, jdgF, if_pos b83])
      · rw [bI_eq0] at b83
        refine ro_iload dX5_judge_86 rfl ?_
        refine ro_iret rfl dX5_judge_88 ?_
        exact ⟨by rw [hf, jdgF, if_neg (by rw [b83]; decide)], ho.tr ho80, rfl⟩
theorem ct_judge {g : GT} {M : MM} {L : LL} {S : ST} {b : Nat} {x : Int32} {z : Int64} (h : RC M L S) (ok : StOK b S) : CTQ g mX5_judge 6 [.ref (dq_A g 0), .int x, .long z] M L (QC M L (sp_judge S x z)) := by
  have hL := h.2.2.1
  have hS := h.2.2.2.1
  have hA := h.2.2.2.2.1
  have okl := ok.2.2.1
  have oc := ok.2.2.2.1
  have a1 := okl.1
  have hb := ok.2.2.2.2.2.2.2
  have h64 := ok.1
  refine ct_of ok_X5_judge (lv := [some (.ref (dq_A g 0)), some (.int x), some (.long z), none, none, none]) rfl (Nat.le_of_ble_eq_true rfl) ?_
  refine ro_iload_n dX5_judge_0 rfl rfl ?_
  refine ro_iconst (v := 1) dX5_judge_1 (by decide) ?_
  refine ro_icmp_lt 25 dX5_judge_2 (by decide) (fun b2 => ?_) (fun b2 => ?_)
  · refine ro_bipush (v := -2) dX5_judge_25 (by decide) ?_
    refine ro_iret rfl dX5_judge_27 ?_
    refine ⟨?_, h.sc (by first | exact OnlySc.rf | exact (fun i a b c => ho19 i (by omega))) rfl, (OnlySc.all (by first | exact OnlySc.rf | exact (fun i a b c => ho19 i (by omega)))), rfl⟩
    show _ = some (Value.int (sp_judge S _ _).1)
    unfold sp_judge
    rw [if_neg (by first | exact (fun q => q.1 b2) | exact (fun q => q.2.1 b7) | exact (fun q => q.2.2.1 b13) | exact (fun q => b22 (by have q4 := q.2.2.2; rw [kz_lN hR, kx_nI (by omega)] at q4; exact q4)))]
  · refine ro_iload_n dX5_judge_5 rfl rfl ?_
    refine ro_iconst (v := 4) dX5_judge_6 (by decide) ?_
    refine ro_icmp_gt 25 dX5_judge_7 (by decide) (fun b7 => ?_) (fun b7 => ?_)
    · refine ro_bipush (v := -2) dX5_judge_25 (by decide) ?_
      refine ro_iret rfl dX5_judge_27 ?_
      refine ⟨?_, h.sc (by first | exact OnlySc.rf | exact (fun i a b c => ho19 i (by omega))) rfl, (OnlySc.all (by first | exact OnlySc.rf | exact (fun i a b c => ho19 i (by omega)))), rfl⟩
      show _ = some (Value.int (sp_judge S _ _).1)
      unfold sp_judge
      rw [if_neg (by first | exact (fun q => q.1 b2) | exact (fun q => q.2.1 b7) | exact (fun q => q.2.2.1 b13) | exact (fun q => b22 (by have q4 := q.2.2.2; rw [kz_lN hR, kx_nI (by omega)] at q4; exact q4)))]
    · refine ro_lload_n dX5_judge_10 rfl rfl ?_
      refine ro_lconst (v := 0) dX5_judge_11 (by decide) ?_
      refine ro_lcmp dX5_judge_12 ?_
      refine ro_if_lt 25 dX5_judge_13 (by decide) (fun b13 => ?_) (fun b13 => ?_)
      · rw [lg_cmp_lt] at b13
        refine ro_bipush (v := -2) dX5_judge_25 (by decide) ?_
        refine ro_iret rfl dX5_judge_27 ?_
        refine ⟨?_, h.sc (by first | exact OnlySc.rf | exact (fun i a b c => ho19 i (by omega))) rfl, (OnlySc.all (by first | exact OnlySc.rf | exact (fun i a b c => ho19 i (by omega)))), rfl⟩
        show _ = some (Value.int (sp_judge S _ _).1)
        unfold sp_judge
        rw [if_neg (by first | exact (fun q => q.1 b2) | exact (fun q => q.2.1 b7) | exact (fun q => q.2.2.1 b13) | exact (fun q => b22 (by have q4 := q.2.2.2; rw [kz_lN hR, kx_nI (by omega)] at q4; exact q4)))]
      · rw [lg_cmp_lt] at b13
        obtain ⟨R, hR, rfl⟩ := pk_lOf b13
        obtain ⟨n, hn, rfl⟩ := nI_of2 (x := x) (M := 4) (n := 4) rfl (fun q => b2 (Int32.lt_trans q (by decide))) (Int32.not_lt.mp b7)
        refine ro_aload_n dX5_judge_16 rfl rfl ?_
        refine ro_iload_n dX5_judge_17 rfl rfl ?_
        refine ro_lload_n dX5_judge_18 rfl rfl ?_
        refine ro_callV2Q ok_X5_fillDoings (ct_doings hn hR) ce_X5 rfl rfl gX5_judge_X5_fillDoings (Nat.le_of_ble_eq_true rfl) (Nat.le_of_ble_eq_true rfl) dX5_judge_19 (fun v19 M19 L19 q19 => ?_)
        obtain ⟨rfl, hD19, ho19, rfl⟩ := q19
        have hS19 : SceneR M19 30 (st_c S) := hS.keep (fun i a b => ho19 i (by omega))
        have hL19 : LaneR M19 16 (st_l S) := hL.keep (fun i a b => ho19 i (by omega))
        refine ro_if_ne 28 dX5_judge_22 (by decide) (fun b22 => ?_) (fun b22 => ?_)
        · rw [bI_ne0, decide_eq_true_eq] at b22
          refine ro_aload_n dX5_judge_28 rfl rfl ?_
          refine gf_X5_trial  in_X5_judge_X5 lk_X5_judge_56 dX5_judge_29 ?_
          refine ro_aload_n dX5_judge_32 rfl rfl ?_
          refine gf_X5_now  in_X5_judge_X5 lk_X5_judge_52 dX5_judge_33 ?_
          refine ro_callV1Q ok_X4_take (ct_scTake sc_34 sc_30 (by omega) hS19) (ce_X4 sc_34) rfl rfl gX5_judge_X4_take (Nat.le_of_ble_eq_true rfl) (Nat.le_of_ble_eq_true rfl) dX5_judge_36 (fun v36 M36 L36 q36 => ?_)
          obtain ⟨rfl, hS36, ho36, rfl⟩ := q36
          have hL36 := hL19.kS sc_34 ho36
          refine ro_iconst (v := 0) dX5_judge_39 (by decide) ?_
          refine ro_istore4 dX5_judge_40 (Nat.le_of_ble_eq_true rfl) rfl ?_
          refine JW.mono ?_ (lp_judge (dg := dgF n R) okl hn (fun p => Nat.mod_lt _ (by decide)) (by omega) n 0 (by omega) M36 (st_c S) none hL36 hS36 oc ho36 (fun p hp => by rw [ho36 4 (by omega)]; exact hD19 p hp) rfl)
          rintro v M' L' ⟨rfl, ho, rfl⟩
          have hs : OnlySc M M' := OnlySc.tr (fun i a b c => ho19 i (by omega)) (OnlySc.tri ho)
          refine ⟨?_, h.sc hs rfl, hs.all, rfl⟩
          show _ = some (Value.int (sp_judge S (nI n) (lN R)).1)
          unfold sp_judge
          rw [kz_lN hR, kx_nI (by omega), if_pos ⟨b2, b7, b13, b22⟩]
        · rw [bI_eq0, decide_eq_false_iff_not] at b22
          refine ro_bipush (v := -2) dX5_judge_25 (by decide) ?_
          refine ro_iret rfl dX5_judge_27 ?_
          refine ⟨?_, h.sc (by first | exact OnlySc.rf | exact (fun i a b c => ho19 i (by omega))) rfl, (OnlySc.all (by first | exact OnlySc.rf | exact (fun i a b c => ho19 i (by omega)))), rfl⟩
          show _ = some (Value.int (sp_judge S _ _).1)
          unfold sp_judge
          rw [if_neg (by first | exact (fun q => q.1 b2) | exact (fun q => q.2.1 b7) | exact (fun q => q.2.2.1 b13) | exact (fun q => b22 (by have q4 := q.2.2.2; rw [kz_lN hR, kx_nI (by omega)] at q4; exact q4)))]
