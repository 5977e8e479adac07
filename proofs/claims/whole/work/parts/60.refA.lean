theorem ll_1 {g : GT} {L : LL} {M0 : MM} {Q : Option Value → MM → LL → Prop} (K : ∀ M : MM, (∀ q, q < 17 → M 107 q = if q < 5 then nI q else 0) → OnlyB 107 107 M0 M → JW g mX6_lane 4 Q M L 66 [some (.ref (dq_A g 102)), some (.int (nI 17))] []) : ∀ (f i : Nat), i + f = 17 → ∀ M : MM, (∀ q, q < i → M 107 q = if q < 5 then nI q else 0) → OnlyB 107 107 M0 M → JW g mX6_lane 4 Q M L 38 [some (.ref (dq_A g 102)), some (.int (nI i))] [] := by
  intro f
  induction f with
  | zero =>
    intro i hi M hr ho
    refine ro_iload_n dX6_lane_38 rfl rfl ?_
    refine ro_bipush (v := 17) dX6_lane_39 (by decide) ?_
    refine ro_icmp_ge 66 dX6_lane_41 (by decide) (fun b41 => ?_) (fun b41 => ?_)
    · have e : i = 17 := by omega
      subst e
      exact K M hr ho
    · exact absurd (nI_le (a := 17) (by omega) (by omega)) b41
  | succ f ih =>
    intro i hi M hr ho
    refine ro_iload_n dX6_lane_38 rfl rfl ?_
    refine ro_bipush (v := 17) dX6_lane_39 (by decide) ?_
    refine ro_icmp_ge 66 dX6_lane_41 (by decide) (fun b41 => ?_) (fun b41 => ?_)
    · exact absurd b41 (nI_ge (b := 17) (by omega) (by decide))
    · refine ro_aload_n dX6_lane_44 rfl rfl ?_
      refine gf_X6_now  in_X6_lane_X6 lk_X6_lane_22 dX6_lane_45 ?_
      refine ro_iload_n dX6_lane_48 rfl rfl ?_
      refine ro_iload_n dX6_lane_49 rfl rfl ?_
      refine ro_iconst (v := 5) dX6_lane_50 (by decide) ?_
      refine ro_icmp_ge 58 dX6_lane_51 (by decide) (fun b51 => ?_) (fun b51 => ?_)
      · rw [show (5 : Int32) = nI 5 from rfl, nI_leI (by omega) (by omega)] at b51
        refine ro_iconst (v := 0) dX6_lane_58 (by decide) ?_
        refine ro_as ar_107 rfl (by omega) dX6_lane_59 (fun M59 e59 => ?_)
        refine ro_iincP1 dX6_lane_60 (Nat.le_of_ble_eq_true rfl) rfl ?_
        refine ro_goto 38 dX6_lane_63 (by decide) ?_
        rw [nI_1]
        refine ih (i + 1) (by omega) M59 (fun q hq => ?_) (ho.tr (OnlyB.up e59 (by decide) (by decide)))
        rw [e59, va_up_self]
        by_cases e : q = i
        · subst e
          rw [pk_us]
          first
            | rw [if_neg (show ¬ q < 5 by omega)]
            | rw [if_pos (show q < 5 by omega)]
        · rw [pk_un e]; exact hr q (by omega)
      · rw [show (5 : Int32) = nI 5 from rfl, nI_leI (by omega) (by omega)] at b51
        refine ro_iload_n dX6_lane_54 rfl rfl ?_
        refine ro_goto 59 dX6_lane_55 (by decide) ?_
        refine ro_as ar_107 rfl (by omega) dX6_lane_59 (fun M59 e59 => ?_)
        refine ro_iincP1 dX6_lane_60 (Nat.le_of_ble_eq_true rfl) rfl ?_
        refine ro_goto 38 dX6_lane_63 (by decide) ?_
        rw [nI_1]
        refine ih (i + 1) (by omega) M59 (fun q hq => ?_) (ho.tr (OnlyB.up e59 (by decide) (by decide)))
        rw [e59, va_up_self]
        by_cases e : q = i
        · subst e
          rw [pk_us]
          first
            | rw [if_neg (show ¬ q < 5 by omega)]
            | rw [if_pos (show q < 5 by omega)]
        · rw [pk_un e]; exact hr q (by omega)
theorem ll_2 {g : GT} {L : LL} {M0 : MM} {Q : Option Value → MM → LL → Prop} {ln : LN} (ok : LnOK ln) (h0 : M0 102 0 = nI (ln_n ln)) (hD : ∀ j, j < ln_n ln → M0 108 (2 * j) = nI (ln_kind ln j) ∧ M0 108 (2 * j + 1) = nI (ln_wall ln j)) (K : ∀ M : MM, (∀ q, q < (ln_n ln) → M 103 q = nI (ln_kind ln q) ∧ M 104 q = nI (ln_wall ln q)) → OnlyB 103 104 M0 M → JW g mX6_lane 4 Q M L 112 [some (.ref (dq_A g 102)), some (.int (nI (ln_n ln)))] []) : ∀ (f i : Nat), i + f = (ln_n ln) → ∀ M : MM, (∀ q, q < i → M 103 q = nI (ln_kind ln q) ∧ M 104 q = nI (ln_wall ln q)) → OnlyB 103 104 M0 M → JW g mX6_lane 4 Q M L 68 [some (.ref (dq_A g 102)), some (.int (nI i))] [] := by
  intro f
  induction f with
  | zero =>
    intro i hi M hr ho
    refine ro_iload_n dX6_lane_68 rfl rfl ?_
    refine ro_aload_n dX6_lane_69 rfl rfl ?_
    refine gf_X6_houses  in_X6_lane_X6 lk_X6_lane_93 dX6_lane_70 ?_
    rw [show M 102 0 = nI (ln_n ln) from by rw [ho 102 (by omega)]; exact h0]
    refine ro_icmp_ge 112 dX6_lane_73 (by decide) (fun b73 => ?_) (fun b73 => ?_)
    · have e : i = ln_n ln := by omega
      subst e
      exact K M hr ho
    · exact absurd (nI_le (by omega) (by have := ok.1; omega)) b73
  | succ f ih =>
    intro i hi M hr ho
    refine ro_iload_n dX6_lane_68 rfl rfl ?_
    refine ro_aload_n dX6_lane_69 rfl rfl ?_
    refine gf_X6_houses  in_X6_lane_X6 lk_X6_lane_93 dX6_lane_70 ?_
    have a1 := ok.1
    rw [show M 102 0 = nI (ln_n ln) from by rw [ho 102 (by omega)]; exact h0]
    refine ro_icmp_ge 112 dX6_lane_73 (by decide) (fun b73 => ?_) (fun b73 => ?_)
    · exact absurd b73 (nI_ge (by omega) (by omega))
    · refine ro_aload_n dX6_lane_76 rfl rfl ?_
      refine gf_X6_kind  in_X6_lane_X6 lk_X6_lane_7 dX6_lane_77 ?_
      refine ro_iload_n dX6_lane_80 rfl rfl ?_
      refine ro_aload_n dX6_lane_81 rfl rfl ?_
      refine gf_X6_readHouse  in_X6_lane_X6 lk_X6_lane_25 dX6_lane_82 ?_
      refine ro_iconst (v := 2) dX6_lane_85 (by decide) ?_
      refine ro_iload_n dX6_lane_86 rfl rfl ?_
      refine ro_imul dX6_lane_87 ?_
      refine ro_top (show _ = nI (2 * i) from pk_mul 2 i) ?_
      refine ro_ai ar_108 rfl (by omega) dX6_lane_88 ?_
      rw [show M 108 (2 * i) = nI (ln_kind ln i) from by rw [ho 108 (by omega)]; exact (hD i (by omega)).1]
      refine ro_as ar_103 rfl (by omega) dX6_lane_89 (fun M89 e89 => ?_)
      refine ro_aload_n dX6_lane_90 rfl rfl ?_
      refine gf_X6_wall  in_X6_lane_X6 lk_X6_lane_13 dX6_lane_91 ?_
      refine ro_iload_n dX6_lane_94 rfl rfl ?_
      refine ro_aload_n dX6_lane_95 rfl rfl ?_
      refine gf_X6_readHouse  in_X6_lane_X6 lk_X6_lane_25 dX6_lane_96 ?_
      refine ro_iconst (v := 2) dX6_lane_99 (by decide) ?_
      refine ro_iload_n dX6_lane_100 rfl rfl ?_
      refine ro_imul dX6_lane_101 ?_
      refine ro_top (show _ = nI (2 * i) from pk_mul 2 i) ?_
      refine ro_iconst (v := 1) dX6_lane_102 (by decide) ?_
      refine ro_iadd dX6_lane_103 ?_
      refine ro_top (show _ = nI (2 * i + 1) from nI_add (2 * i) (1)) ?_
      refine ro_ai ar_108 rfl (by omega) dX6_lane_104 ?_
      rw [show M89 108 (2 * i + 1) = nI (ln_wall ln i) from by rw [e89, va_up_ne _ _ (by decide), ho 108 (by omega)]; exact (hD i (by omega)).2]
      refine ro_as ar_104 rfl (by omega) dX6_lane_105 (fun M105 e105 => ?_)
      refine ro_iincP1 dX6_lane_106 (Nat.le_of_ble_eq_true rfl) rfl ?_
      refine ro_goto 68 dX6_lane_109 (by decide) ?_
      rw [nI_1]
      refine ih (i + 1) (by omega) M105 (fun q hq => ?_) ((ho.tr (OnlyB.up e89 (by decide) (by decide))).tr (OnlyB.up e105 (by decide) (by decide)))
      rw [e105, va_up_ne _ _ (by decide), va_up_self, e89, va_up_self, va_up_ne _ _ (by decide)]
      by_cases e : q = i
      · subst e
        rw [pk_us, pk_us]
        exact ⟨rfl, rfl⟩
      · rw [pk_un e, pk_un e]; exact hr q (by omega)
theorem ll_3 {g : GT} {L : LL} {M0 : MM} {Q : Option Value → MM → LL → Prop} {ns : Nat} (h8 : ns ≤ 8) (h0 : M0 102 1 = nI ns) (K : ∀ M : MM, (∀ q, q < (3 * ns) → M 105 q = M0 109 q) → OnlyB 105 105 M0 M → JW g mX6_lane 4 Q M L 142 [some (.ref (dq_A g 102)), some (.int (nI (3 * ns)))] []) : ∀ (f i : Nat), i + f = (3 * ns) → ∀ M : MM, (∀ q, q < i → M 105 q = M0 109 q) → OnlyB 105 105 M0 M → JW g mX6_lane 4 Q M L 114 [some (.ref (dq_A g 102)), some (.int (nI i))] [] := by
  intro f
  induction f with
  | zero =>
    intro i hi M hr ho
    refine ro_iload_n dX6_lane_114 rfl rfl ?_
    refine ro_iconst (v := 3) dX6_lane_115 (by decide) ?_
    refine ro_aload_n dX6_lane_116 rfl rfl ?_
    refine gf_X6_sayings  in_X6_lane_X6 lk_X6_lane_96 dX6_lane_117 ?_
    rw [show M 102 1 = nI ns from by rw [ho 102 (by omega)]; exact h0]
    refine ro_imul dX6_lane_120 ?_
    refine ro_top (show _ = nI (3 * ns) from pk_mul 3 ns) ?_
    refine ro_icmp_ge 142 dX6_lane_121 (by decide) (fun b121 => ?_) (fun b121 => ?_)
    · have e : i = 3 * ns := by omega
      subst e
      exact K M hr ho
    · exact absurd (nI_le (by omega) (by omega)) b121
  | succ f ih =>
    intro i hi M hr ho
    refine ro_iload_n dX6_lane_114 rfl rfl ?_
    refine ro_iconst (v := 3) dX6_lane_115 (by decide) ?_
    refine ro_aload_n dX6_lane_116 rfl rfl ?_
    refine gf_X6_sayings  in_X6_lane_X6 lk_X6_lane_96 dX6_lane_117 ?_
    rw [show M 102 1 = nI ns from by rw [ho 102 (by omega)]; exact h0]
    refine ro_imul dX6_lane_120 ?_
    refine ro_top (show _ = nI (3 * ns) from pk_mul 3 ns) ?_
    refine ro_icmp_ge 142 dX6_lane_121 (by decide) (fun b121 => ?_) (fun b121 => ?_)
    · exact absurd b121 (nI_ge (by omega) (by omega))
    · refine ro_aload_n dX6_lane_124 rfl rfl ?_
      refine gf_X6_saying  in_X6_lane_X6 lk_X6_lane_16 dX6_lane_125 ?_
      refine ro_iload_n dX6_lane_128 rfl rfl ?_
      refine ro_aload_n dX6_lane_129 rfl rfl ?_
      refine gf_X6_readSaying  in_X6_lane_X6 lk_X6_lane_28 dX6_lane_130 ?_
      refine ro_iload_n dX6_lane_133 rfl rfl ?_
      refine ro_ai ar_109 rfl (by omega) dX6_lane_134 ?_
      refine ro_as ar_105 rfl (by omega) dX6_lane_135 (fun M135 e135 => ?_)
      refine ro_iincP1 dX6_lane_136 (Nat.le_of_ble_eq_true rfl) rfl ?_
      refine ro_goto 114 dX6_lane_139 (by decide) ?_
      rw [nI_1]
      refine ih (i + 1) (by omega) M135 (fun q hq => ?_) (ho.tr (OnlyB.up e135 (by decide) (by decide)))
      rw [e135, va_up_self]
      by_cases e : q = i
      · subst e
        rw [pk_us, ho 109 (by omega)]
      · rw [pk_un e]; exact hr q (by omega)
theorem ll_4 {g : GT} {L : LL} {M0 : MM} {Q : Option Value → MM → LL → Prop} {nr : Nat} (h4 : nr ≤ 4) (h0 : M0 102 2 = nI nr) (K : ∀ M : MM, (∀ q, q < nr → M 106 q = M0 110 q) → OnlyB 106 106 M0 M → JW g mX6_lane 4 Q M L 170 [some (.ref (dq_A g 102)), some (.int (nI nr))] []) : ∀ (f i : Nat), i + f = nr → ∀ M : MM, (∀ q, q < i → M 106 q = M0 110 q) → OnlyB 106 106 M0 M → JW g mX6_lane 4 Q M L 144 [some (.ref (dq_A g 102)), some (.int (nI i))] [] := by
  intro f
  induction f with
  | zero =>
    intro i hi M hr ho
    refine ro_iload_n dX6_lane_144 rfl rfl ?_
    refine ro_aload_n dX6_lane_145 rfl rfl ?_
    refine gf_X6_rains  in_X6_lane_X6 lk_X6_lane_99 dX6_lane_146 ?_
    rw [show M 102 2 = nI nr from by rw [ho 102 (by omega)]; exact h0]
    refine ro_icmp_ge 170 dX6_lane_149 (by decide) (fun b149 => ?_) (fun b149 => ?_)
    · have e : i = nr := by omega
      subst e
      exact K M hr ho
    · exact absurd (nI_le (by omega) (by omega)) b149
  | succ f ih =>
    intro i hi M hr ho
    refine ro_iload_n dX6_lane_144 rfl rfl ?_
    refine ro_aload_n dX6_lane_145 rfl rfl ?_
    refine gf_X6_rains  in_X6_lane_X6 lk_X6_lane_99 dX6_lane_146 ?_
    rw [show M 102 2 = nI nr from by rw [ho 102 (by omega)]; exact h0]
    refine ro_icmp_ge 170 dX6_lane_149 (by decide) (fun b149 => ?_) (fun b149 => ?_)
    · exact absurd b149 (nI_ge (by omega) (by omega))
    · refine ro_aload_n dX6_lane_152 rfl rfl ?_
      refine gf_X6_rain  in_X6_lane_X6 lk_X6_lane_19 dX6_lane_153 ?_
      refine ro_iload_n dX6_lane_156 rfl rfl ?_
      refine ro_aload_n dX6_lane_157 rfl rfl ?_
      refine gf_X6_readRain  in_X6_lane_X6 lk_X6_lane_31 dX6_lane_158 ?_
      refine ro_iload_n dX6_lane_161 rfl rfl ?_
      refine ro_ai ar_110 rfl (by omega) dX6_lane_162 ?_
      refine ro_as ar_106 rfl (by omega) dX6_lane_163 (fun M163 e163 => ?_)
      refine ro_iincP1 dX6_lane_164 (Nat.le_of_ble_eq_true rfl) rfl ?_
      refine ro_goto 144 dX6_lane_167 (by decide) ?_
      rw [nI_1]
      refine ih (i + 1) (by omega) M163 (fun q hq => ?_) (ho.tr (OnlyB.up e163 (by decide) (by decide)))
      rw [e163, va_up_self]
      by_cases e : q = i
      · subst e
        rw [pk_us, ho 110 (by omega)]
      · rw [pk_un e]; exact hr q (by omega)
theorem cr_lane {g : GT} {M : MM} {L : LL} {S : ST} {b : Nat} (h : RR M L S) (ok : StOK b S) : CTQ g mX6_lane 4 [.ref (dq_A g 102)] M L (QR M L (sp_lane S)) := by
  have hL := h.1
  have hS : ScR (M 107) (17 * 0) (ln_n (st_l S)) (st_c S) := h.2.1
  have hA := h.2.2.2.2.1
  have okl := ok.2.2.1
  have oc := ok.2.2.2.1
  have a1 := okl.1
  have hb := ok.2.2.2.2.2.2.2
  have h64 := ok.1
  refine ct_of ok_X6_lane (lv := [some (.ref (dq_A g 102)), none]) rfl (Nat.le_of_ble_eq_true rfl) ?_
  refine ro_aload_n dX6_lane_0 rfl rfl ?_
  refine ro_callV0Q ok_X6_readText (cr_read h.2.2.1 h.2.2.2.1 ok.2.1 h64) ce_X6 rfl rfl gX6_lane_X6_readText (Nat.le_of_ble_eq_true rfl) (Nat.le_of_ble_eq_true rfl) dX6_lane_1 (fun v1 M1 L1 q1 => ?_)
  obtain ⟨rfl, hx1, rfl, hd1⟩ := q1
  refine ro_bipush (v := -9) dX6_lane_4 (by decide) ?_
  refine ro_icmp_eq 12 dX6_lane_6 (by decide) (fun b6 => ?_) (fun b6 => ?_)
  · obtain ⟨hd, okn⟩ := hd1 b6
    obtain ⟨ln, hln⟩ : ∃ ln, ln = (ps_l (pscan (st_t S) (st_n S) 0 ps_0).2) := ⟨_, rfl⟩
    rw [← hln] at hd okn
    refine ro_aload_n dX6_lane_12 rfl rfl ?_
    refine ro_aload_n dX6_lane_13 rfl rfl ?_
    refine gf_X6_readHouses  in_X6_lane_X6 lk_X6_lane_72 dX6_lane_14 ?_
    rw [hd.1]
    refine pf_X6_houses  in_X6_lane_X6 lk_X6_lane_93  dX6_lane_17 (fun M17 e17 => ?_)
    refine ro_aload_n dX6_lane_20 rfl rfl ?_
    refine ro_aload_n dX6_lane_21 rfl rfl ?_
    refine gf_X6_readSayings  in_X6_lane_X6 lk_X6_lane_75 dX6_lane_22 ?_
    rw [show M17 102 12 = nI (ln_s ln) from by rw [e17, va_up_self, pk_un (by decide)]; exact hd.2.1]
    refine pf_X6_sayings  in_X6_lane_X6 lk_X6_lane_96  dX6_lane_25 (fun M25 e25 => ?_)
    refine ro_aload_n dX6_lane_28 rfl rfl ?_
    refine ro_aload_n dX6_lane_29 rfl rfl ?_
    refine gf_X6_readRains  in_X6_lane_X6 lk_X6_lane_78 dX6_lane_30 ?_
    rw [show M25 102 13 = nI (ln_r ln) from by rw [e25, va_up_self, pk_un (by decide), e17, va_up_self, pk_un (by decide)]; exact hd.2.2.1]
    refine pf_X6_rains  in_X6_lane_X6 lk_X6_lane_99  dX6_lane_33 (fun M33 e33 => ?_)
    refine ro_iconst (v := 0) dX6_lane_36 (by decide) ?_
    refine ro_istore_n1 dX6_lane_37 (Nat.le_of_ble_eq_true rfl) rfl ?_
    have g0 : M33 102 0 = nI (ln_n ln) := by rw [e33, va_up_self, pk_un (by decide), e25, va_up_self, pk_un (by decide), e17, va_up_self, pk_us]
    have g1 : M33 102 1 = nI (ln_s ln) := by rw [e33, va_up_self, pk_un (by decide), e25, va_up_self, pk_us]
    have g2 : M33 102 2 = nI (ln_r ln) := by rw [e33, va_up_self, pk_us]
    have d8 : M33 108 = M1 108 := by rw [e33, va_up_ne _ _ (by decide), e25, va_up_ne _ _ (by decide), e17, va_up_ne _ _ (by decide)]
    have d9 : M33 109 = M1 109 := by rw [e33, va_up_ne _ _ (by decide), e25, va_up_ne _ _ (by decide), e17, va_up_ne _ _ (by decide)]
    have d10 : M33 110 = M1 110 := by rw [e33, va_up_ne _ _ (by decide), e25, va_up_ne _ _ (by decide), e17, va_up_ne _ _ (by decide)]
    refine ll_1 (M0 := M33) (fun M5 r5 o5 => ?_) 17 0 rfl M33 (fun q hq => absurd hq (Nat.not_lt_zero q)) OnlyB.rf
    refine ro_iconst (v := 0) dX6_lane_66 (by decide) ?_
    refine ro_istore_n1 dX6_lane_67 (Nat.le_of_ble_eq_true rfl) rfl ?_
    refine ll_2 (M0 := M5) (ln := ln) okn (by rw [o5 102 (by omega)]; exact g0) (by rw [o5 108 (by omega), d8]; exact hd.2.2.2.1) (fun M6 r6 o6 => ?_) (ln_n ln) 0 (by omega) M5 (fun q hq => absurd hq (Nat.not_lt_zero q)) OnlyB.rf
    refine ro_iconst (v := 0) dX6_lane_112 (by decide) ?_
    refine ro_istore_n1 dX6_lane_113 (Nat.le_of_ble_eq_true rfl) rfl ?_
    refine ll_3 (M0 := M6) (ns := ln_s ln) okn.2.1 (by rw [o6 102 (by omega), o5 102 (by omega)]; exact g1) (fun M7 r7 o7 => ?_) (3 * ln_s ln) 0 (by omega) M6 (fun q hq => absurd hq (Nat.not_lt_zero q)) OnlyB.rf
    rw [o6 109 (by omega), o5 109 (by omega)] at r7
    refine ro_iconst (v := 0) dX6_lane_142 (by decide) ?_
    refine ro_istore_n1 dX6_lane_143 (Nat.le_of_ble_eq_true rfl) rfl ?_
    refine ll_4 (M0 := M7) (nr := ln_r ln) okn.2.2.1 (by rw [o7 102 (by omega), o6 102 (by omega), o5 102 (by omega)]; exact g2) (fun M8 r8 o8 => ?_) (ln_r ln) 0 (by omega) M7 (fun q hq => absurd hq (Nat.not_lt_zero q)) OnlyB.rf
    rw [o7 110 (by omega), o6 110 (by omega), o5 110 (by omega)] at r8
    refine ro_aload_n dX6_lane_170 rfl rfl ?_
    refine ro_iconst (v := 0) dX6_lane_171 (by decide) ?_
    refine pf_X6_acts  in_X6_lane_X6 lk_X6_lane_102  dX6_lane_172 (fun M172 e172 => ?_)
    refine ro_aload_n dX6_lane_175 rfl rfl ?_
    refine gf_X6_isKept  in_X6_lane_X6 lk_X6_lane_49 dX6_lane_176 ?_
    refine ro_iconst (v := 0) dX6_lane_179 (by decide) ?_
    refine ro_iconst (v := 0) dX6_lane_180 (by decide) ?_
    refine ro_bs br_116 (k := 0) (by decide) (by decide) rfl dX6_lane_181 (fun M181 e181 => ?_)
    refine ro_aload_n dX6_lane_182 rfl rfl ?_
    refine gf_X6_isKept  in_X6_lane_X6 lk_X6_lane_49 dX6_lane_183 ?_
    refine ro_iconst (v := 1) dX6_lane_186 (by decide) ?_
    refine ro_iconst (v := 0) dX6_lane_187 (by decide) ?_
    refine ro_bs br_116 (k := 1) (by decide) (by decide) rfl dX6_lane_188 (fun M188 e188 => ?_)
    have f188 : ∀ q, q ≠ 18 → M188 102 q = M33 102 q := fun q hq => by rw [e188, va_up_ne _ _ (by decide), e181, va_up_ne _ _ (by decide), e172, va_up_self, pk_un hq, o8 102 (by omega), o7 102 (by omega), o6 102 (by omega), o5 102 (by omega)]
    have o188 : ∀ q, q ≠ 102 → q ≠ 116 → M188 q = M8 q := fun q a1 a2 => by rw [e188, va_up_ne _ _ a2, e181, va_up_ne _ _ a2, e172, va_up_ne _ _ a1]
    have k188 : M188 116 = upd (upd (M8 116) 0 0) 1 0 := by rw [e188, va_up_self, e181, va_up_self, e172, va_up_ne _ _ (by decide)]
    refine ro_bipush (v := 100) dX6_lane_189 (by decide) ?_
    refine ro_aload_n dX6_lane_191 rfl rfl ?_
    refine gf_X6_houses  in_X6_lane_X6 lk_X6_lane_93 dX6_lane_192 ?_
    rw [show M188 102 0 = nI (ln_n ln) from by rw [f188 0 (by decide)]; exact g0]
    refine ro_imul dX6_lane_195 ?_
    refine ro_top (show _ = nI (100 * ln_n ln) from pk_mul 100 _) ?_
    refine ro_bipush (v := 10) dX6_lane_196 (by decide) ?_
    refine ro_aload_n dX6_lane_198 rfl rfl ?_
    refine gf_X6_sayings  in_X6_lane_X6 lk_X6_lane_96 dX6_lane_199 ?_
    rw [show M188 102 1 = nI (ln_s ln) from by rw [f188 1 (by decide)]; exact g1]
    refine ro_imul dX6_lane_202 ?_
    refine ro_top (show _ = nI (10 * ln_s ln) from pk_mul 10 _) ?_
    refine ro_iadd dX6_lane_203 ?_
    rw [nI_add]
    refine ro_aload_n dX6_lane_204 rfl rfl ?_
    refine gf_X6_rains  in_X6_lane_X6 lk_X6_lane_99 dX6_lane_205 ?_
    rw [show M188 102 2 = nI (ln_r ln) from by rw [f188 2 (by decide)]; exact g2]
    refine ro_iadd dX6_lane_208 ?_
    rw [nI_add]
    refine ro_iret rfl dX6_lane_209 ?_
    have hx4 : ∀ q, q ≠ 11 → q ≠ 12 → q ≠ 13 → q ≠ 16 → q ≠ 17 → q ≠ 0 → q ≠ 1 → q ≠ 2 → M33 102 q = M 102 q := fun q a1 a2 a3 a4 a5 a6 a7 a8 => by rw [e33, va_up_self, pk_un a8, e25, va_up_self, pk_un a7, e17, va_up_self, pk_un a6]; exact hx1.2.1 q a1 a2 a3 a4 a5
    have hgo : ∀ q, (q < 102 ∨ 110 < q) → q ≠ 116 → M188 q = M q := fun q a1 a2 => by rw [o188 q (by omega) a2, o8 q (by omega), o7 q (by omega), o6 q (by omega), o5 q (by omega), e33, va_up_ne _ _ (by omega), e25, va_up_ne _ _ (by omega), e17, va_up_ne _ _ (by omega)]; exact hx1.1 q (by omega) (by omega) (by omega) (by omega) (by omega)
    have hans : sp_lane S = (nI (100 * ln_n ln + 10 * ln_s ln + ln_r ln), (S.1, ln, sc_0, [], fun _ => none, st_h S, st_s S)) := by rw [hln]; exact if_pos b6
    rw [hans]
    obtain ⟨y1, y2, y3, y4, ⟨x, z1, z2, z3, z4, z5⟩, y6, y8, y9⟩ := h
    have n7 : ∀ q, q < 17 → M188 107 q = if q < 5 then nI q else 0 := fun q hq => by rw [o188 107 (by decide) (by decide), o8 107 (by omega), o7 107 (by omega), o6 107 (by omega)]; exact r5 q hq
    refine ⟨rfl, ⟨⟨(f188 0 (by decide)).trans g0, (f188 1 (by decide)).trans g1, (f188 2 (by decide)).trans g2, fun j hj => ?_, fun j hj => ?_, fun j hj => ?_⟩, ⟨fun j hj => ?_, ⟨fun _ => 0, fun k hk => ⟨?_, Nat.zero_lt_succ 63⟩, fun _ _ => rfl⟩, fun j hj => ?_, ?_, ?_⟩, ?_, ?_, ⟨x, z1, ?_, ?_, Nat.zero_le _, fun i c hc => by simp [st_a] at hc⟩, fun j hj => ?_, y8.keep ?_ (fun i a b => hgo i (by omega) (by omega)), y9⟩, fun i hi => ?_, rfl⟩
    · rw [o188 103 (by decide) (by decide), o8 103 (by omega), o7 103 (by omega), o188 104 (by decide) (by decide), o8 104 (by omega), o7 104 (by omega)]; exact r6 j hj
    · have hs8 := okn.2.1
      rw [o188 105 (by decide) (by decide), o8 105 (by omega), r7 (3 * j) (by have : j < ln_s ln := hj; omega), r7 (3 * j + 1) (by have : j < ln_s ln := hj; omega), r7 (3 * j + 2) (by have : j < ln_s ln := hj; omega), d9]; exact hd.2.2.2.2.1 j hj
    · rw [o188 106 (by decide) (by decide), r8 j hj, d10]; exact hd.2.2.2.2.2 j hj
    · rw [Nat.zero_add, n7 j (by omega), if_pos hj]; rfl
    · rw [Nat.zero_add, n7 (5 + k) (by omega), if_neg (by omega)]; rfl
    · rw [Nat.zero_add, n7 (10 + j) (by omega), if_neg (by omega)]; rfl
    · rw [n7 15 (by omega), if_neg (by omega)]; rfl
    · rw [n7 16 (by omega), if_neg (by omega)]; rfl
    · exact ((f188 15 (by decide)).trans (hx4 15 (by decide) (by decide) (by decide) (by decide) (by decide) (by decide) (by decide) (by decide))).trans y3
    · rw [hgo 111 (by omega) (by omega)]; exact y4
    · exact ((f188 19 (by decide)).trans (hx4 19 (by decide) (by decide) (by decide) (by decide) (by decide) (by decide) (by decide) (by decide))).trans z2
    · rw [e188, va_up_ne _ _ (by decide), e181, va_up_ne _ _ (by decide), e172, va_up_self, pk_us]; rfl
    · rw [k188]
      rcases (show j = 0 ∨ j = 1 by omega) with rfl | rfl
      · rw [pk_un (by decide), pk_us]; exact ⟨rfl, fun c hc => by cases hc⟩
      · rw [pk_us]; exact ⟨rfl, fun c hc => by cases hc⟩
    · exact (f188 21 (by decide)).trans (hx4 21 (by decide) (by decide) (by decide) (by decide) (by decide) (by decide) (by decide) (by decide))
    · exact hgo i (by omega) (by omega)
  · refine ro_bipush (v := -3) dX6_lane_9 (by decide) ?_
    refine ro_iret rfl dX6_lane_11 ?_
    rw [show sp_lane S = (-3, S) from if_neg b6]
    exact ⟨rfl, h.scr hx1 rfl, hx1.all, rfl⟩
