theorem aw_0 {i p : Nat} : away i p = 0 ↔ i = p := by
  unfold away
  split <;> omega
theorem aw_lt {i p : Nat} (hi : i < 5) (hp : p < 5) : away i p < 5 := by
  unfold away
  split <;> omega
theorem aw_ok {i p : Nat} (hi : i < 5) (hp : p < 5) : (if 0 ≤ oI ((i : Int) - (p : Int)) then oI ((i : Int) - (p : Int)) else 0 - oI ((i : Int) - (p : Int))) = nI (away i p) := by
  have h0 : (0 : Int32) = oI 0 := rfl
  have h1 : 0 ≤ oI ((i : Int) - (p : Int)) ↔ p ≤ i := by rw [h0, oI_le (by omega) (by omega) (by omega) (by omega)]; omega
  unfold away
  by_cases h : p ≤ i
  · rw [if_pos h, if_pos (h1.mpr h), nI_oI]; congr 1; omega
  · rw [if_neg h, if_neg (fun z => h (h1.mp z)), nI_oI, h0, oI_sub]; congr 1; omega
theorem lp_hear {g : GT} {M : MM} {L : LL} {s b : Nat} {ln : LN} {c : SC} {r : Nat} (hs : sc_ok s) (hL : LaneR M 16 ln) (ok : LnOK ln) (hS : SceneR M s c) (oc : ScOK (ln_n ln) b c) (hb : b < 2 ^ 30) (hr : r ≤ 9) (h0 : ln_s ln ≠ 0) (x1 : Option Value) : ∀ (k i : Nat), i + k = ln_n ln → ∀ x7 x8 x9 : Option Value, JW g mX4_housesThatHearBy 2 (Rt (some (.int (nI (mkB (hearP ln c r) (ln_n ln))))) M L) M L 78 [some (.ref (dq_A g s)), x1, some (.int (nI (sayK ln c))), some (.int (nI (ln_place ln (sayK ln c)))), some (.int (oI ((ln_loud ln (sayK ln c) : Int) + sc_vo c (ln_place ln (sayK ln c)) - (ln_wall ln (ln_place ln (sayK ln c)) : Int) - (r : Int)))), some (.int (nI (mkB (hearP ln c r) i))), some (.int (nI i)), x7, x8, x9] [] := by
  have a1 := ok.1
  have hn := hL.1
  have hk : (sayK ln c) < ln_s ln := Nat.mod_lt _ (by omega)
  have hp := ok.2.2.2.2.1 _ hk
  have hw := (ok.2.2.2.1 _ hp.1).1
  have hv := oc.2.2.2.1 (ln_place ln (sayK ln c))
  intro k
  induction k with
  | zero =>
    intro i hi x7 x8 x9
    refine ro_iload dX4_housesThatHearBy_78 rfl ?_
    refine ro_aload_n dX4_housesThatHearBy_80 rfl rfl ?_
    refine gf_X4_lane hs in_X4_housesThatHearBy_X4 lk_X4_housesThatHearBy_21 dX4_housesThatHearBy_81 ?_
    refine gf_X2_houses ln_16 in_X4_housesThatHearBy_X2 lk_X4_housesThatHearBy_43 dX4_housesThatHearBy_84 ?_
    rw [hn]
    refine ro_icmp_ge 170 dX4_housesThatHearBy_87 (by decide) (fun b87 => ?_) (fun b87 => ?_)
    · refine ro_iload dX4_housesThatHearBy_170 rfl ?_
      refine ro_iret rfl dX4_housesThatHearBy_172 ?_
      exact ⟨by rw [show i = ln_n ln by omega], rfl, rfl⟩
    · exact absurd (nI_le (by omega) (by omega)) b87
  | succ k ih =>
    intro i hi x7 x8 x9
    refine ro_iload dX4_housesThatHearBy_78 rfl ?_
    refine ro_aload_n dX4_housesThatHearBy_80 rfl rfl ?_
    refine gf_X4_lane hs in_X4_housesThatHearBy_X4 lk_X4_housesThatHearBy_21 dX4_housesThatHearBy_81 ?_
    refine gf_X2_houses ln_16 in_X4_housesThatHearBy_X2 lk_X4_housesThatHearBy_43 dX4_housesThatHearBy_84 ?_
    rw [hn]
    refine ro_icmp_ge 170 dX4_housesThatHearBy_87 (by decide) (fun b87 => ?_) (fun b87 => ?_)
    · exact absurd b87 (nI_ge (by omega) (by omega))
    · refine ro_aload_n dX4_housesThatHearBy_90 rfl rfl ?_
      refine gf_X4_lane hs in_X4_housesThatHearBy_X4 lk_X4_housesThatHearBy_21 dX4_housesThatHearBy_91 ?_
      refine gf_X2_kind ln_16 in_X4_housesThatHearBy_X2 lk_X4_housesThatHearBy_38 dX4_housesThatHearBy_94 ?_
      refine ro_aload_n dX4_housesThatHearBy_97 rfl rfl ?_
      refine gf_X4_hearer hs in_X4_housesThatHearBy_X4 lk_X4_housesThatHearBy_9 dX4_housesThatHearBy_98 ?_
      refine ro_iload dX4_housesThatHearBy_101 rfl ?_
      refine ro_ai (ar_s1 hs) rfl (by omega) dX4_housesThatHearBy_103 ?_
      rw [hS.1 i (by omega)]
      have hwi := oc.1 i (by omega)
      refine ro_ai (ar_l2 ln_16) rfl (by omega) dX4_housesThatHearBy_104 ?_
      rw [hL.2.2.2.2.1 _ (oc.1 i (by omega))]
      have hkd := (ok.2.2.2.1 _ (oc.1 i (by omega))).2
      have hea := earZ_b (ln_kind ln (sc_who c i))
      refine ro_istore7 dX4_housesThatHearBy_105 (Nat.le_of_ble_eq_true rfl) rfl ?_
      refine ro_iload dX4_housesThatHearBy_107 rfl ?_
      refine ro_iload_n dX4_housesThatHearBy_109 rfl rfl ?_
      refine ro_isub dX4_housesThatHearBy_110 ?_
      refine ro_top (show _ = oI ((i : Int) - ((ln_place ln (sayK ln c)) : Nat)) from by rw [nI_oI, nI_oI, oI_sub]) ?_
      refine ro_abs lk_X4_housesThatHearBy_78 dX4_housesThatHearBy_111 ?_
      refine ro_top (aw_ok (by omega) (by omega)) ?_
      refine ro_istore8 dX4_housesThatHearBy_114 (Nat.le_of_ble_eq_true rfl) rfl ?_
      refine ro_iload dX4_housesThatHearBy_116 rfl ?_
      refine ro_iconst (v := 3) dX4_housesThatHearBy_118 (by decide) ?_
      refine ro_icmp_ne 131 dX4_housesThatHearBy_119 (by decide) (fun b119 => ?_) (fun b119 => ?_)
      · refine ro_iconst (v := 0) dX4_housesThatHearBy_131 (by decide) ?_
        refine ro_istore9 dX4_housesThatHearBy_132 (Nat.le_of_ble_eq_true rfl) rfl ?_
        refine ro_iload dX4_housesThatHearBy_134 rfl ?_
        refine ro_if_ne 155 dX4_housesThatHearBy_136 (by decide) (fun b136 => ?_) (fun b136 => ?_)
        · exact absurd b136 (by decide)
        · refine ro_iload dX4_housesThatHearBy_139 rfl ?_
          refine ro_ear1 rfl dX4_housesThatHearBy_141 ?_
          refine ro_iload dX4_housesThatHearBy_144 rfl ?_
          refine ro_ei rfl (by omega) dX4_housesThatHearBy_146 ?_
          rw [ear_oI]
          refine ro_iadd dX4_housesThatHearBy_147 ?_
          refine ro_top (oI_add _ _) ?_
          refine ro_iconst (v := 2) dX4_housesThatHearBy_148 (by decide) ?_
          refine ro_iload dX4_housesThatHearBy_149 rfl ?_
          refine ro_imul dX4_housesThatHearBy_151 ?_
          refine ro_top (show _ = oI (2 * (away i (ln_place ln (sayK ln c)) : Int)) from by rw [show (2 : Int32) = oI 2 from rfl, nI_oI, oI_mul]) ?_
          refine ro_icmp_le 164 dX4_housesThatHearBy_152 (by decide) (fun b152 => ?_) (fun b152 => ?_)
          · have e : hearP ln c r i = false := by
              have h9 := aw_lt (i := i) (p := (ln_place ln (sayK ln c))) (by omega) (by omega)
              rw [oI_le (by omega) (by omega) (by omega) (by omega)] at b152
              rw [Bool.eq_false_iff]
              simp only [hearP, ne_eq, Bool.or_eq_true, Bool.and_eq_true, decide_eq_true_eq]
              rintro (⟨z1, z2⟩ | z)
              · first
                  | exact b119 ((nI_eq (b := 3) (by omega) (by omega)).mpr z1)
                  | exact b124 ((nI_eq (b := 0) (by omega) (by omega)).mpr (aw_0.mpr z2))
              · omega
            refine ro_iincP6 dX4_housesThatHearBy_164 (Nat.le_of_ble_eq_true rfl) rfl ?_
            refine ro_goto 78 dX4_housesThatHearBy_167 (by decide) ?_
            rw [nI_1, show mkB (hearP ln c r) i = mkB (hearP ln c r) (i + 1) by rw [mkB, if_neg (by rw [e]; decide), Nat.or_zero]]
            exact ih (i + 1) (by omega) _ _ _
          · have e : hearP ln c r i = true := by
              have q2 := nI_oI (away i (ln_place ln (sayK ln c)))
              simp only [hearP, Bool.or_eq_true, Bool.and_eq_true, decide_eq_true_eq]
              first
                | (left; refine ⟨?_, ?_⟩; exact (nI_eq (b := 3) (by omega) (by omega)).mp b119; exact aw_0.mp ((nI_eq (b := 0) (Nat.lt_trans (aw_lt (by omega) (by omega)) (by decide)) (by omega)).mp b124); done)
                | (right; have h9 := aw_lt (i := i) (p := (ln_place ln (sayK ln c))) (by omega) (by omega); rw [oI_le (by omega) (by omega) (by omega) (by omega)] at b152; omega)
            refine ro_iload dX4_housesThatHearBy_155 rfl ?_
            refine ro_iconst (v := 1) dX4_housesThatHearBy_157 (by decide) ?_
            refine ro_iload dX4_housesThatHearBy_158 rfl ?_
            refine ro_ishl dX4_housesThatHearBy_160 ?_
            rw [sh_1 i (by omega)]
            refine ro_ior dX4_housesThatHearBy_161 ?_
            rw [fa_or]
            refine ro_istore5 dX4_housesThatHearBy_162 (Nat.le_of_ble_eq_true rfl) rfl ?_
            refine ro_iincP6 dX4_housesThatHearBy_164 (Nat.le_of_ble_eq_true rfl) rfl ?_
            refine ro_goto 78 dX4_housesThatHearBy_167 (by decide) ?_
            rw [nI_1, show mkB (hearP ln c r) i ||| 2 ^ i = mkB (hearP ln c r) (i + 1) by rw [mkB, if_pos e]]
            exact ih (i + 1) (by omega) _ _ _
      · refine ro_iload dX4_housesThatHearBy_122 rfl ?_
        refine ro_if_ne 131 dX4_housesThatHearBy_124 (by decide) (fun b124 => ?_) (fun b124 => ?_)
        · refine ro_iconst (v := 0) dX4_housesThatHearBy_131 (by decide) ?_
          refine ro_istore9 dX4_housesThatHearBy_132 (Nat.le_of_ble_eq_true rfl) rfl ?_
          refine ro_iload dX4_housesThatHearBy_134 rfl ?_
          refine ro_if_ne 155 dX4_housesThatHearBy_136 (by decide) (fun b136 => ?_) (fun b136 => ?_)
          · exact absurd b136 (by decide)
          · refine ro_iload dX4_housesThatHearBy_139 rfl ?_
            refine ro_ear1 rfl dX4_housesThatHearBy_141 ?_
            refine ro_iload dX4_housesThatHearBy_144 rfl ?_
            refine ro_ei rfl (by omega) dX4_housesThatHearBy_146 ?_
            rw [ear_oI]
            refine ro_iadd dX4_housesThatHearBy_147 ?_
            refine ro_top (oI_add _ _) ?_
            refine ro_iconst (v := 2) dX4_housesThatHearBy_148 (by decide) ?_
            refine ro_iload dX4_housesThatHearBy_149 rfl ?_
            refine ro_imul dX4_housesThatHearBy_151 ?_
            refine ro_top (show _ = oI (2 * (away i (ln_place ln (sayK ln c)) : Int)) from by rw [show (2 : Int32) = oI 2 from rfl, nI_oI, oI_mul]) ?_
            refine ro_icmp_le 164 dX4_housesThatHearBy_152 (by decide) (fun b152 => ?_) (fun b152 => ?_)
            · have e : hearP ln c r i = false := by
                have h9 := aw_lt (i := i) (p := (ln_place ln (sayK ln c))) (by omega) (by omega)
                rw [oI_le (by omega) (by omega) (by omega) (by omega)] at b152
                rw [Bool.eq_false_iff]
                simp only [hearP, ne_eq, Bool.or_eq_true, Bool.and_eq_true, decide_eq_true_eq]
                rintro (⟨z1, z2⟩ | z)
                · first
                    | exact b119 ((nI_eq (b := 3) (by omega) (by omega)).mpr z1)
                    | exact b124 ((nI_eq (b := 0) (by omega) (by omega)).mpr (aw_0.mpr z2))
                · omega
              refine ro_iincP6 dX4_housesThatHearBy_164 (Nat.le_of_ble_eq_true rfl) rfl ?_
              refine ro_goto 78 dX4_housesThatHearBy_167 (by decide) ?_
              rw [nI_1, show mkB (hearP ln c r) i = mkB (hearP ln c r) (i + 1) by rw [mkB, if_neg (by rw [e]; decide), Nat.or_zero]]
              exact ih (i + 1) (by omega) _ _ _
            · have e : hearP ln c r i = true := by
                have q2 := nI_oI (away i (ln_place ln (sayK ln c)))
                simp only [hearP, Bool.or_eq_true, Bool.and_eq_true, decide_eq_true_eq]
                first
                  | (left; refine ⟨?_, ?_⟩; exact (nI_eq (b := 3) (by omega) (by omega)).mp b119; exact aw_0.mp ((nI_eq (b := 0) (Nat.lt_trans (aw_lt (by omega) (by omega)) (by decide)) (by omega)).mp b124); done)
                  | (right; have h9 := aw_lt (i := i) (p := (ln_place ln (sayK ln c))) (by omega) (by omega); rw [oI_le (by omega) (by omega) (by omega) (by omega)] at b152; omega)
              refine ro_iload dX4_housesThatHearBy_155 rfl ?_
              refine ro_iconst (v := 1) dX4_housesThatHearBy_157 (by decide) ?_
              refine ro_iload dX4_housesThatHearBy_158 rfl ?_
              refine ro_ishl dX4_housesThatHearBy_160 ?_
              rw [sh_1 i (by omega)]
              refine ro_ior dX4_housesThatHearBy_161 ?_
              rw [fa_or]
              refine ro_istore5 dX4_housesThatHearBy_162 (Nat.le_of_ble_eq_true rfl) rfl ?_
              refine ro_iincP6 dX4_housesThatHearBy_164 (Nat.le_of_ble_eq_true rfl) rfl ?_
              refine ro_goto 78 dX4_housesThatHearBy_167 (by decide) ?_
              rw [nI_1, show mkB (hearP ln c r) i ||| 2 ^ i = mkB (hearP ln c r) (i + 1) by rw [mkB, if_pos e]]
              exact ih (i + 1) (by omega) _ _ _
        · refine ro_iconst (v := 1) dX4_housesThatHearBy_127 (by decide) ?_
          refine ro_goto 132 dX4_housesThatHearBy_128 (by decide) ?_
          refine ro_istore9 dX4_housesThatHearBy_132 (Nat.le_of_ble_eq_true rfl) rfl ?_
          refine ro_iload dX4_housesThatHearBy_134 rfl ?_
          refine ro_if_ne 155 dX4_housesThatHearBy_136 (by decide) (fun b136 => ?_) (fun b136 => ?_)
          · have e : hearP ln c r i = true := by
              have q2 := nI_oI (away i (ln_place ln (sayK ln c)))
              simp only [hearP, Bool.or_eq_true, Bool.and_eq_true, decide_eq_true_eq]
              first
                | (left; refine ⟨?_, ?_⟩; exact (nI_eq (b := 3) (by omega) (by omega)).mp b119; exact aw_0.mp ((nI_eq (b := 0) (Nat.lt_trans (aw_lt (by omega) (by omega)) (by decide)) (by omega)).mp b124); done)
                | (right; have h9 := aw_lt (i := i) (p := (ln_place ln (sayK ln c))) (by omega) (by omega); rw [oI_le (by omega) (by omega) (by omega) (by omega)] at b152; omega)
            refine ro_iload dX4_housesThatHearBy_155 rfl ?_
            refine ro_iconst (v := 1) dX4_housesThatHearBy_157 (by decide) ?_
            refine ro_iload dX4_housesThatHearBy_158 rfl ?_
            refine ro_ishl dX4_housesThatHearBy_160 ?_
            rw [sh_1 i (by omega)]
            refine ro_ior dX4_housesThatHearBy_161 ?_
            rw [fa_or]
            refine ro_istore5 dX4_housesThatHearBy_162 (Nat.le_of_ble_eq_true rfl) rfl ?_
            refine ro_iincP6 dX4_housesThatHearBy_164 (Nat.le_of_ble_eq_true rfl) rfl ?_
            refine ro_goto 78 dX4_housesThatHearBy_167 (by decide) ?_
            rw [nI_1, show mkB (hearP ln c r) i ||| 2 ^ i = mkB (hearP ln c r) (i + 1) by rw [mkB, if_pos e]]
            exact ih (i + 1) (by omega) _ _ _
          · exact absurd b136 (by decide)
theorem say_has {l : LN} {h : Nat} (h8 : ln_s l ≤ 8) : hB (ln_s l) (if ln_s l = 0 then (-9 : Int32) else nI (h % ln_s l)) = !decide (ln_s l = 0) := by
  by_cases h0 : ln_s l = 0
  · simp only [h0, if_true]; decide
  · have h1 : h % ln_s l < ln_s l := Nat.mod_lt _ (by omega)
    rw [if_neg h0, hB_nI (by omega) (by omega)]
    simp [h0, h1]
theorem ct_hearBy {g : GT} {M : MM} {L : LL} {s b : Nat} {ln : LN} {c : SC} {r : Nat} (hs : sc_ok s) (hL : LaneR M 16 ln) (ok : LnOK ln) (hS : SceneR M s c) (oc : ScOK (ln_n ln) b c) (hb : b < 2 ^ 30) (hr : r ≤ 9) : CT g mX4_housesThatHearBy 2 [.ref (dq_A g s), .int (nI r)] M L (some (.int (nI (mkB (hearB ln c r) (ln_n ln))))) M L := by
  have a1 := ok.1
  have hn := hL.1
  have h8 := ok.2.1
  have hh := oc.2.2.2.2.2
  have hdy := oc.2.2.2.2.1
  refine ct_of ok_X4_housesThatHearBy (lv := [some (.ref (dq_A g s)), some (.int (nI r)), none, none, none, none, none, none, none, none]) rfl (Nat.le_of_ble_eq_true rfl) ?_
  refine ro_aload_n dX4_housesThatHearBy_0 rfl rfl ?_
  refine gf_X4_lane hs in_X4_housesThatHearBy_X4 lk_X4_housesThatHearBy_21 dX4_housesThatHearBy_1 ?_
  refine ro_aload_n dX4_housesThatHearBy_4 rfl rfl ?_
  refine gf_X4_hour hs in_X4_housesThatHearBy_X4 lk_X4_housesThatHearBy_29 dX4_housesThatHearBy_5 ?_
  rw [hS.2.2.2.2]
  refine ro_callV1 ok_X2_sayingAt (ct_sayingAt (h := sc_hr c) ln_16 hL.2.1 h8 (by omega)) (ce_X2 ln_16) rfl rfl gX4_housesThatHearBy_X2_sayingAt (Nat.le_of_ble_eq_true rfl) (Nat.le_of_ble_eq_true rfl) dX4_housesThatHearBy_8 ?_
  refine ro_istore_n2 dX4_housesThatHearBy_11 (Nat.le_of_ble_eq_true rfl) rfl ?_
  refine ro_aload_n dX4_housesThatHearBy_12 rfl rfl ?_
  refine ro_callV0 ok_X4_areStrayed (ct_areStrayed hs hS.2.2.2.1 hdy) (ce_X4 hs) rfl rfl gX4_housesThatHearBy_X4_areStrayed (Nat.le_of_ble_eq_true rfl) (Nat.le_of_ble_eq_true rfl) dX4_housesThatHearBy_13 ?_
  refine ro_if_ne 30 dX4_housesThatHearBy_16 (by decide) (fun b16 => ?_) (fun b16 => ?_)
  · rw [bI_ne0, decide_eq_true_eq] at b16
    refine ro_iconst (v := 0) dX4_housesThatHearBy_30 (by decide) ?_
    refine ro_iret rfl dX4_housesThatHearBy_31 ?_
    refine ⟨?_, rfl, rfl⟩
    rw [show mkB (hearB ln c r) (ln_n ln) = 0 from (mkB_cong (q := fun _ => false) (fun j _ => by simp [hearB, *])).trans (mkB_0 _)]
    rfl
  · rw [bI_eq0, decide_eq_false_iff_not] at b16
    refine ro_aload_n dX4_housesThatHearBy_19 rfl rfl ?_
    refine gf_X4_lane hs in_X4_housesThatHearBy_X4 lk_X4_housesThatHearBy_21 dX4_housesThatHearBy_20 ?_
    refine ro_iload_n dX4_housesThatHearBy_23 rfl rfl ?_
    refine ro_callV1 ok_X2_hasSaying (ct_hasSaying ln_16 hL.2.1 (if ln_s ln = 0 then (-9 : Int32) else nI (sc_hr c % ln_s ln))) (ce_X2 ln_16) rfl rfl gX4_housesThatHearBy_X2_hasSaying (Nat.le_of_ble_eq_true rfl) (Nat.le_of_ble_eq_true rfl) dX4_housesThatHearBy_24 ?_
    rw [say_has h8]
    refine ro_if_ne 32 dX4_housesThatHearBy_27 (by decide) (fun b27 => ?_) (fun b27 => ?_)
    · rw [bI_ne0, Bool.not_eq_true', decide_eq_false_iff_not] at b27
      rw [if_neg b27]
      have hk := Nat.mod_lt (sc_hr c) (show 0 < ln_s ln by omega)
      have hp := ok.2.2.2.2.1 _ hk
      refine ro_aload_n dX4_housesThatHearBy_32 rfl rfl ?_
      refine gf_X4_lane hs in_X4_housesThatHearBy_X4 lk_X4_housesThatHearBy_21 dX4_housesThatHearBy_33 ?_
      refine gf_X2_place ln_16 in_X4_housesThatHearBy_X2 lk_X4_housesThatHearBy_69 dX4_housesThatHearBy_36 ?_
      refine ro_iload_n dX4_housesThatHearBy_39 rfl rfl ?_
      refine ro_ai (ar_l3 ln_16) (k := sayK ln c) rfl (by unfold sayK; omega) dX4_housesThatHearBy_40 ?_
      rw [hL.2.2.2.2.2.1 (sayK ln c) hk]
      have hp1 : ln_place ln (sayK ln c) < ln_n ln := hp.1
      refine ro_istore_n3 dX4_housesThatHearBy_41 (Nat.le_of_ble_eq_true rfl) rfl ?_
      refine ro_aload_n dX4_housesThatHearBy_42 rfl rfl ?_
      refine gf_X4_lane hs in_X4_housesThatHearBy_X4 lk_X4_housesThatHearBy_21 dX4_housesThatHearBy_43 ?_
      refine gf_X2_loud ln_16 in_X4_housesThatHearBy_X2 lk_X4_housesThatHearBy_72 dX4_housesThatHearBy_46 ?_
      refine ro_iload_n dX4_housesThatHearBy_49 rfl rfl ?_
      refine ro_ai (ar_l5 ln_16) (k := sayK ln c) rfl (by unfold sayK; omega) dX4_housesThatHearBy_50 ?_
      rw [hL.2.2.2.2.2.2.2.1 (sayK ln c) hk]
      refine ro_aload_n dX4_housesThatHearBy_51 rfl rfl ?_
      refine gf_X4_voice hs in_X4_housesThatHearBy_X4 lk_X4_housesThatHearBy_18 dX4_housesThatHearBy_52 ?_
      refine ro_iload_n dX4_housesThatHearBy_55 rfl rfl ?_
      refine ro_ai (ar_s3 hs) rfl (by omega) dX4_housesThatHearBy_56 ?_
      rw [hS.2.2.1 (ln_place ln (sayK ln c)) (by omega)]
      refine ro_iadd dX4_housesThatHearBy_57 ?_
      refine ro_aload_n dX4_housesThatHearBy_58 rfl rfl ?_
      refine gf_X4_lane hs in_X4_housesThatHearBy_X4 lk_X4_housesThatHearBy_21 dX4_housesThatHearBy_59 ?_
      refine gf_X2_wall ln_16 in_X4_housesThatHearBy_X2 lk_X4_housesThatHearBy_75 dX4_housesThatHearBy_62 ?_
      refine ro_iload_n dX4_housesThatHearBy_65 rfl rfl ?_
      refine ro_ai (ar_l1 ln_16) rfl (by omega) dX4_housesThatHearBy_66 ?_
      rw [hL.2.2.2.1 (ln_place ln (sayK ln c)) hp1]
      refine ro_isub dX4_housesThatHearBy_67 ?_
      refine ro_iload_n dX4_housesThatHearBy_68 rfl rfl ?_
      refine ro_isub dX4_housesThatHearBy_69 ?_
      refine ro_top (show _ = oI ((ln_loud ln (sayK ln c) : Int) + sc_vo c (ln_place ln (sayK ln c)) - (ln_wall ln (ln_place ln (sayK ln c)) : Int) - (r : Int)) from by rw [nI_oI, nI_oI, nI_oI, oI_add, oI_sub, oI_sub]) ?_
      refine ro_istore4 dX4_housesThatHearBy_70 (Nat.le_of_ble_eq_true rfl) rfl ?_
      refine ro_iconst (v := 0) dX4_housesThatHearBy_72 (by decide) ?_
      refine ro_istore5 dX4_housesThatHearBy_73 (Nat.le_of_ble_eq_true rfl) rfl ?_
      refine ro_iconst (v := 0) dX4_housesThatHearBy_75 (by decide) ?_
      refine ro_istore6 dX4_housesThatHearBy_76 (Nat.le_of_ble_eq_true rfl) rfl ?_
      refine JW.mono ?_ (lp_hear hs hL ok hS oc hb hr b27 (some (.int (nI r))) (ln_n ln) 0 (by omega) none none none)
      rintro v M' L' ⟨rfl, rfl, rfl⟩
      refine ⟨?_, rfl, rfl⟩
      rw [mkB_cong (p := hearB ln c r) (q := hearP ln c r) (fun j _ => by simp [hearB, *])]
    · rw [bI_eq0, Bool.not_eq_false', decide_eq_true_eq] at b27
      refine ro_iconst (v := 0) dX4_housesThatHearBy_30 (by decide) ?_
      refine ro_iret rfl dX4_housesThatHearBy_31 ?_
      refine ⟨?_, rfl, rfl⟩
      rw [show mkB (hearB ln c r) (ln_n ln) = 0 from (mkB_cong (q := fun _ => false) (fun j _ => by simp [hearB, *])).trans (mkB_0 _)]
      rfl
