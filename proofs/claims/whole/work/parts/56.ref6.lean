theorem lr_knownBy {g : GT} {M : MM} {L : LL} {ln : LN} {b : Nat} {c : SC} (hL : RLn M ln) (ok : LnOK ln) (hS : ScR (M 107) (17 * 0) (ln_n ln) c) (oc : ScOK (ln_n ln) b c) {m : Nat} (hm : m < 2 ^ 31) : ∀ (f i : Nat), i + f = ln_n ln → JW g mX6_knownBy 1 (Rt (some (.int (nI (orB m.testBit (sc_kn c) (ln_n ln))))) M L) M L 4 [some (.ref (dq_A g 102)), some (.int (nI m)), some (.int (nI (orB m.testBit (sc_kn c) i))), some (.int (nI i))] [] := by
  have a1 := ok.1
  intro f
  induction f with
  | zero =>
    intro i hi
    refine ro_iload_n dX6_knownBy_4 rfl rfl ?_
    refine ro_aload_n dX6_knownBy_5 rfl rfl ?_
    refine gf_X6_houses  in_X6_knownBy_X6 lk_X6_knownBy_93 dX6_knownBy_6 ?_
    rw [hL.1]
    refine ro_icmp_ge 39 dX6_knownBy_9 (by decide) (fun b9 => ?_) (fun b9 => ?_)
    · refine ro_iload_n dX6_knownBy_39 rfl rfl ?_
      refine ro_iret rfl dX6_knownBy_40 ?_
      exact ⟨by rw [show i = ln_n ln by omega], rfl, rfl⟩
    · exact absurd (nI_le (by omega) (by omega)) b9
  | succ f ih =>
    intro i hi
    refine ro_iload_n dX6_knownBy_4 rfl rfl ?_
    refine ro_aload_n dX6_knownBy_5 rfl rfl ?_
    refine gf_X6_houses  in_X6_knownBy_X6 lk_X6_knownBy_93 dX6_knownBy_6 ?_
    rw [hL.1]
    refine ro_icmp_ge 39 dX6_knownBy_9 (by decide) (fun b9 => ?_) (fun b9 => ?_)
    · exact absurd b9 (nI_ge (by omega) (by omega))
    · refine ro_iload_n dX6_knownBy_12 rfl rfl ?_
      refine ro_iload_n dX6_knownBy_13 rfl rfl ?_
      refine ro_iload_n dX6_knownBy_14 rfl rfl ?_
      refine ro_callS2 ok_X6_has (cr_has hm (by omega)) gX6_knownBy_X6_has (Nat.le_of_ble_eq_true rfl) (Nat.le_of_ble_eq_true rfl) dX6_knownBy_15 ?_
      refine ro_if_eq 30 dX6_knownBy_18 (by decide) (fun b18 => ?_) (fun b18 => ?_)
      · rw [bI_eq0] at b18
        refine ro_iconst (v := 0) dX6_knownBy_30 (by decide) ?_
        refine ro_ior dX6_knownBy_31 ?_
        refine ro_istore_n2 dX6_knownBy_32 (Nat.le_of_ble_eq_true rfl) rfl ?_
        refine ro_iincP3 dX6_knownBy_33 (Nat.le_of_ble_eq_true rfl) rfl ?_
        refine ro_goto 4 dX6_knownBy_36 (by decide) ?_
        rw [nI_1]
        have z := ih (i + 1) (by omega)
        first
          | (rw [orB, if_pos b18, ← fa_or] at z
             exact z)
          | (rw [orB, if_neg (by rw [b18]; decide), ← fa_or] at z
             exact z)
      · rw [bI_ne0] at b18
        refine ro_aload_n dX6_knownBy_21 rfl rfl ?_
        refine ro_iconst (v := 0) dX6_knownBy_22 (by decide) ?_
        refine ro_iload_n dX6_knownBy_23 rfl rfl ?_
        refine ro_callV2 ok_X6_knowsAt (cr_knowsAt (lv := 0) (by decide) hS oc.1 a1 (by omega)) ce_X6 rfl rfl gX6_knownBy_X6_knowsAt (Nat.le_of_ble_eq_true rfl) (Nat.le_of_ble_eq_true rfl) dX6_knownBy_24 ?_
        refine ro_goto 31 dX6_knownBy_27 (by decide) ?_
        refine ro_ior dX6_knownBy_31 ?_
        refine ro_istore_n2 dX6_knownBy_32 (Nat.le_of_ble_eq_true rfl) rfl ?_
        refine ro_iincP3 dX6_knownBy_33 (Nat.le_of_ble_eq_true rfl) rfl ?_
        refine ro_goto 4 dX6_knownBy_36 (by decide) ?_
        rw [nI_1]
        have z := ih (i + 1) (by omega)
        first
          | (rw [orB, if_pos b18, ← fa_or] at z
             exact z)
          | (rw [orB, if_neg (by rw [b18]; decide), ← fa_or] at z
             exact z)
theorem cr_knownBy {g : GT} {M : MM} {L : LL} {ln : LN} {b : Nat} {c : SC} (hL : RLn M ln) (ok : LnOK ln) (hS : ScR (M 107) (17 * 0) (ln_n ln) c) (oc : ScOK (ln_n ln) b c) {m : Nat} (hm : m < 2 ^ 31) : CT g mX6_knownBy 1 [.ref (dq_A g 102), .int (nI m)] M L (some (.int (nI (orB m.testBit (sc_kn c) (ln_n ln))))) M L := by
  refine ct_of ok_X6_knownBy (lv := [some (.ref (dq_A g 102)), some (.int (nI m)), none, none]) rfl (Nat.le_of_ble_eq_true rfl) ?_
  refine ro_iconst (v := 0) dX6_knownBy_0 (by decide) ?_
  refine ro_istore_n2 dX6_knownBy_1 (Nat.le_of_ble_eq_true rfl) rfl ?_
  refine ro_iconst (v := 0) dX6_knownBy_2 (by decide) ?_
  refine ro_istore_n3 dX6_knownBy_3 (Nat.le_of_ble_eq_true rfl) rfl ?_
  exact lr_knownBy hL ok hS oc hm (ln_n ln) 0 (by omega)
theorem lr_tells {g : GT} {M : MM} {L : LL} {ln : LN} {b : Nat} {c : SC} (hL : RLn M ln) (ok : LnOK ln) (hS : ScR (M 107) (17 * 0) (ln_n ln) c) (oc : ScOK (ln_n ln) b c) {th : Nat} {w : Int32} (hth : th < 64) (hw : zo w = true) : ∀ (f i : Nat), i + f = 2 ^ ln_n ln → ∀ x5 : Option Value, JW g mX6_tells 2 (Rt (some (.int (match tlF (ln_n ln) th (sc_kn c) (2 ^ ln_n ln) with | none => (-9 : Int32) | some b => if w = 0 then nI (pop b) else nI b))) M L) M L 31 [some (.ref (dq_A g 102)), some (.int (nI th)), some (.int w), some (.int (bE (tlF (ln_n ln) th (sc_kn c) i))), some (.int (nI i)), x5] [] := by
  have a1 := ok.1
  have h32 : 2 ^ ln_n ln ≤ 2 ^ 5 := Nat.pow_le_pow_right (by decide) a1
  have hK : ∀ {m : Nat}, orB m.testBit (sc_kn c) (ln_n ln) < 64 := fun {m} => orB_lt (w := 6) (fun k _ => oc.2.2.1 k)
  intro f
  induction f with
  | zero =>
    intro i hi x5
    have e : i = 2 ^ ln_n ln := by omega
    subst e
    rcases hT : tlF (ln_n ln) th (sc_kn c) (2 ^ ln_n ln) with _ | bb
    · show JW g mX6_tells 2 _ M L 31 [some (.ref (dq_A g 102)), some (.int (nI th)), some (.int w), some (.int (-9)), some (.int (nI (2 ^ ln_n ln))), x5] []
      refine ro_iload dX6_tells_31 rfl ?_
      refine ro_iconst (v := 1) dX6_tells_33 (by decide) ?_
      refine ro_aload_n dX6_tells_34 rfl rfl ?_
      refine gf_X6_houses  in_X6_tells_X6 lk_X6_tells_93 dX6_tells_35 ?_
      rw [hL.1]
      refine ro_ishl dX6_tells_38 ?_
      rw [sh_1 (ln_n ln) (by omega)]
      refine ro_icmp_ge 98 dX6_tells_39 (by decide) (fun b39 => ?_) (fun b39 => ?_)
      · refine ro_iload_n dX6_tells_98 rfl rfl ?_
        refine ro_bipush (v := -9) dX6_tells_99 (by decide) ?_
        refine ro_icmp_eq 109 dX6_tells_101 (by decide) (fun b101 => ?_) (fun b101 => ?_)
        · refine ro_iload_n dX6_tells_109 rfl rfl ?_
          refine ro_goto 117 dX6_tells_110 (by decide) ?_
          refine ro_iret rfl dX6_tells_117 ?_
          exact ⟨rfl, rfl, rfl⟩
        · exact absurd rfl b101
      · exact absurd (nI_le (by omega) (by omega)) b39
    · have hbb := tlF_lt hT
      show JW g mX6_tells 2 _ M L 31 [some (.ref (dq_A g 102)), some (.int (nI th)), some (.int w), some (.int (nI bb)), some (.int (nI (2 ^ ln_n ln))), x5] []
      refine ro_iload dX6_tells_31 rfl ?_
      refine ro_iconst (v := 1) dX6_tells_33 (by decide) ?_
      refine ro_aload_n dX6_tells_34 rfl rfl ?_
      refine gf_X6_houses  in_X6_tells_X6 lk_X6_tells_93 dX6_tells_35 ?_
      rw [hL.1]
      refine ro_ishl dX6_tells_38 ?_
      rw [sh_1 (ln_n ln) (by omega)]
      refine ro_icmp_ge 98 dX6_tells_39 (by decide) (fun b39 => ?_) (fun b39 => ?_)
      · refine ro_iload_n dX6_tells_98 rfl rfl ?_
        refine ro_bipush (v := -9) dX6_tells_99 (by decide) ?_
        refine ro_icmp_eq 109 dX6_tells_101 (by decide) (fun b101 => ?_) (fun b101 => ?_)
        · exact absurd b101 (nI_ne9 (by omega))
        · refine ro_iload_n dX6_tells_104 rfl rfl ?_
          refine ro_iconst (v := 1) dX6_tells_105 (by decide) ?_
          refine ro_icmp_ne 113 dX6_tells_106 (by decide) (fun b106 => ?_) (fun b106 => ?_)
          · refine ro_iload_n dX6_tells_113 rfl rfl ?_
            refine ro_callS1 ok_X6_ones (cr_ones (a := bb) (by omega)) gX6_tells_X6_ones (Nat.le_of_ble_eq_true rfl) (Nat.le_of_ble_eq_true rfl) dX6_tells_114 ?_
            refine ro_iret rfl dX6_tells_117 ?_
            refine ⟨?_, rfl, rfl⟩
            show _ = some (Value.int (if w = 0 then nI (pop bb) else nI bb))
            first
              | (rw [if_neg (by rw [b106]; decide)]; done)
              | (rw [if_pos (Classical.byContradiction fun z => b106 (zo_ne hw z))])
          · refine ro_iload_n dX6_tells_109 rfl rfl ?_
            refine ro_goto 117 dX6_tells_110 (by decide) ?_
            refine ro_iret rfl dX6_tells_117 ?_
            refine ⟨?_, rfl, rfl⟩
            show _ = some (Value.int (if w = 0 then nI (pop bb) else nI bb))
            first
              | (rw [if_neg (by rw [b106]; decide)]; done)
              | (rw [if_pos (Classical.byContradiction fun z => b106 (zo_ne hw z))])
      · exact absurd (nI_le (by omega) (by omega)) b39
  | succ f ih =>
    intro i hi x5
    rcases hT : tlF (ln_n ln) th (sc_kn c) i with _ | bb
    · show JW g mX6_tells 2 _ M L 31 [some (.ref (dq_A g 102)), some (.int (nI th)), some (.int w), some (.int (-9)), some (.int (nI i)), x5] []
      have hfew : fewB (tlF (ln_n ln) th (sc_kn c) i) i = true := by rw [hT]; rfl
      refine ro_iload dX6_tells_31 rfl ?_
      refine ro_iconst (v := 1) dX6_tells_33 (by decide) ?_
      refine ro_aload_n dX6_tells_34 rfl rfl ?_
      refine gf_X6_houses  in_X6_tells_X6 lk_X6_tells_93 dX6_tells_35 ?_
      rw [hL.1]
      refine ro_ishl dX6_tells_38 ?_
      rw [sh_1 (ln_n ln) (by omega)]
      refine ro_icmp_ge 98 dX6_tells_39 (by decide) (fun b39 => ?_) (fun b39 => ?_)
      · exact absurd b39 (nI_ge (by omega) (by omega))
      · refine ro_iload_n dX6_tells_42 rfl rfl ?_
        refine ro_bipush (v := -9) dX6_tells_43 (by decide) ?_
        refine ro_icmp_eq 60 dX6_tells_45 (by decide) (fun b45 => ?_) (fun b45 => ?_)
        · refine ro_iconst (v := 1) dX6_tells_60 (by decide) ?_
          refine ro_goto 65 dX6_tells_61 (by decide) ?_
          refine ro_istore5 dX6_tells_65 (Nat.le_of_ble_eq_true rfl) rfl ?_
          refine ro_iload dX6_tells_67 rfl ?_
          refine ro_if_eq 90 dX6_tells_69 (by decide) (fun b69 => ?_) (fun b69 => ?_)
          · exact absurd b69 (by decide)
          · refine ro_iload_n dX6_tells_72 rfl rfl ?_
            refine ro_aload_n dX6_tells_73 rfl rfl ?_
            refine ro_iload dX6_tells_74 rfl ?_
            refine ro_callV1 ok_X6_knownBy (cr_knownBy hL ok hS oc (by omega)) ce_X6 rfl rfl gX6_tells_X6_knownBy (Nat.le_of_ble_eq_true rfl) (Nat.le_of_ble_eq_true rfl) dX6_tells_76 ?_
            refine ro_iconst (v := -1) dX6_tells_79 (by decide) ?_
            refine ro_ixor dX6_tells_80 ?_
            refine ro_iand dX6_tells_81 ?_
            refine ro_if_ne 90 dX6_tells_82 (by decide) (fun b82 => ?_) (fun b82 => ?_)
            · replace b82 : ¬ orB i.testBit (sc_kn c) (ln_n ln) ||| th = orB i.testBit (sc_kn c) (ln_n ln) := fun z => b82 ((bt_sub _ (by omega) _ hK).mpr z)
              refine ro_iload_n dX6_tells_90 rfl rfl ?_
              refine ro_istore_n3 dX6_tells_91 (Nat.le_of_ble_eq_true rfl) rfl ?_
              refine ro_iincP4 dX6_tells_92 (Nat.le_of_ble_eq_true rfl) rfl ?_
              refine ro_goto 31 dX6_tells_95 (by decide) ?_
              rw [nI_1]
              first
                | (have z := ih (i + 1) (by omega) (some (.int 1))
                   rw [show tlF (ln_n ln) th (sc_kn c) (i + 1) = some i from if_pos ⟨hfew, b82⟩] at z
                   exact z)
                | (have z := ih (i + 1) (by omega) (some (.int 1))
                   rw [show tlF (ln_n ln) th (sc_kn c) (i + 1) = tlF (ln_n ln) th (sc_kn c) i from if_neg (fun q => b82 q.2), hT] at z
                   exact z)
                | (have z := ih (i + 1) (by omega) (some (.int 0))
                   rw [show tlF (ln_n ln) th (sc_kn c) (i + 1) = tlF (ln_n ln) th (sc_kn c) i from if_neg (fun q => by rw [hfew] at q; exact absurd q.1 (by decide)), hT] at z
                   exact z)
            · replace b82 := (bt_sub _ (by omega) _ hK).mp b82
              refine ro_iload dX6_tells_85 rfl ?_
              refine ro_goto 91 dX6_tells_87 (by decide) ?_
              refine ro_istore_n3 dX6_tells_91 (Nat.le_of_ble_eq_true rfl) rfl ?_
              refine ro_iincP4 dX6_tells_92 (Nat.le_of_ble_eq_true rfl) rfl ?_
              refine ro_goto 31 dX6_tells_95 (by decide) ?_
              rw [nI_1]
              first
                | (have z := ih (i + 1) (by omega) (some (.int 1))
                   rw [show tlF (ln_n ln) th (sc_kn c) (i + 1) = some i from if_pos ⟨hfew, b82⟩] at z
                   exact z)
                | (have z := ih (i + 1) (by omega) (some (.int 1))
                   rw [show tlF (ln_n ln) th (sc_kn c) (i + 1) = tlF (ln_n ln) th (sc_kn c) i from if_neg (fun q => b82 q.2), hT] at z
                   exact z)
                | (have z := ih (i + 1) (by omega) (some (.int 0))
                   rw [show tlF (ln_n ln) th (sc_kn c) (i + 1) = tlF (ln_n ln) th (sc_kn c) i from if_neg (fun q => by rw [hfew] at q; exact absurd q.1 (by decide)), hT] at z
                   exact z)
        · exact absurd rfl b45
    · have hbb := tlF_lt hT
      show JW g mX6_tells 2 _ M L 31 [some (.ref (dq_A g 102)), some (.int (nI th)), some (.int w), some (.int (nI bb)), some (.int (nI i)), x5] []
      refine ro_iload dX6_tells_31 rfl ?_
      refine ro_iconst (v := 1) dX6_tells_33 (by decide) ?_
      refine ro_aload_n dX6_tells_34 rfl rfl ?_
      refine gf_X6_houses  in_X6_tells_X6 lk_X6_tells_93 dX6_tells_35 ?_
      rw [hL.1]
      refine ro_ishl dX6_tells_38 ?_
      rw [sh_1 (ln_n ln) (by omega)]
      refine ro_icmp_ge 98 dX6_tells_39 (by decide) (fun b39 => ?_) (fun b39 => ?_)
      · exact absurd b39 (nI_ge (by omega) (by omega))
      · refine ro_iload_n dX6_tells_42 rfl rfl ?_
        refine ro_bipush (v := -9) dX6_tells_43 (by decide) ?_
        refine ro_icmp_eq 60 dX6_tells_45 (by decide) (fun b45 => ?_) (fun b45 => ?_)
        · exact absurd b45 (nI_ne9 (by omega))
        · refine ro_iload dX6_tells_48 rfl ?_
          refine ro_callS1 ok_X6_ones (cr_ones (a := i) (by omega)) gX6_tells_X6_ones (Nat.le_of_ble_eq_true rfl) (Nat.le_of_ble_eq_true rfl) dX6_tells_50 ?_
          refine ro_iload_n dX6_tells_53 rfl rfl ?_
          refine ro_callS1 ok_X6_ones (cr_ones (a := bb) (by omega)) gX6_tells_X6_ones (Nat.le_of_ble_eq_true rfl) (Nat.le_of_ble_eq_true rfl) dX6_tells_54 ?_
          refine ro_icmp_ge 64 dX6_tells_57 (by decide) (fun b57 => ?_) (fun b57 => ?_)
          · rw [nI_leI (by have := pop_lt bb; omega) (by have := pop_lt i; omega)] at b57
            have hfew : fewB (tlF (ln_n ln) th (sc_kn c) i) i = false := by rw [hT]; exact decide_eq_false (by omega)
            refine ro_iconst (v := 0) dX6_tells_64 (by decide) ?_
            refine ro_istore5 dX6_tells_65 (Nat.le_of_ble_eq_true rfl) rfl ?_
            refine ro_iload dX6_tells_67 rfl ?_
            refine ro_if_eq 90 dX6_tells_69 (by decide) (fun b69 => ?_) (fun b69 => ?_)
            · refine ro_iload_n dX6_tells_90 rfl rfl ?_
              refine ro_istore_n3 dX6_tells_91 (Nat.le_of_ble_eq_true rfl) rfl ?_
              refine ro_iincP4 dX6_tells_92 (Nat.le_of_ble_eq_true rfl) rfl ?_
              refine ro_goto 31 dX6_tells_95 (by decide) ?_
              rw [nI_1]
              first
                | (have z := ih (i + 1) (by omega) (some (.int 1))
                   rw [show tlF (ln_n ln) th (sc_kn c) (i + 1) = some i from if_pos ⟨hfew, b82⟩] at z
                   exact z)
                | (have z := ih (i + 1) (by omega) (some (.int 1))
                   rw [show tlF (ln_n ln) th (sc_kn c) (i + 1) = tlF (ln_n ln) th (sc_kn c) i from if_neg (fun q => b82 q.2), hT] at z
                   exact z)
                | (have z := ih (i + 1) (by omega) (some (.int 0))
                   rw [show tlF (ln_n ln) th (sc_kn c) (i + 1) = tlF (ln_n ln) th (sc_kn c) i from if_neg (fun q => by rw [hfew] at q; exact absurd q.1 (by decide)), hT] at z
                   exact z)
            · exact absurd b69 (by decide)
          · rw [nI_leI (by have := pop_lt bb; omega) (by have := pop_lt i; omega)] at b57
            have hfew : fewB (tlF (ln_n ln) th (sc_kn c) i) i = true := by rw [hT]; exact decide_eq_true (by omega)
            refine ro_iconst (v := 1) dX6_tells_60 (by decide) ?_
            refine ro_goto 65 dX6_tells_61 (by decide) ?_
            refine ro_istore5 dX6_tells_65 (Nat.le_of_ble_eq_true rfl) rfl ?_
            refine ro_iload dX6_tells_67 rfl ?_
            refine ro_if_eq 90 dX6_tells_69 (by decide) (fun b69 => ?_) (fun b69 => ?_)
            · exact absurd b69 (by decide)
            · refine ro_iload_n dX6_tells_72 rfl rfl ?_
              refine ro_aload_n dX6_tells_73 rfl rfl ?_
              refine ro_iload dX6_tells_74 rfl ?_
              refine ro_callV1 ok_X6_knownBy (cr_knownBy hL ok hS oc (by omega)) ce_X6 rfl rfl gX6_tells_X6_knownBy (Nat.le_of_ble_eq_true rfl) (Nat.le_of_ble_eq_true rfl) dX6_tells_76 ?_
              refine ro_iconst (v := -1) dX6_tells_79 (by decide) ?_
              refine ro_ixor dX6_tells_80 ?_
              refine ro_iand dX6_tells_81 ?_
              refine ro_if_ne 90 dX6_tells_82 (by decide) (fun b82 => ?_) (fun b82 => ?_)
              · replace b82 : ¬ orB i.testBit (sc_kn c) (ln_n ln) ||| th = orB i.testBit (sc_kn c) (ln_n ln) := fun z => b82 ((bt_sub _ (by omega) _ hK).mpr z)
                refine ro_iload_n dX6_tells_90 rfl rfl ?_
                refine ro_istore_n3 dX6_tells_91 (Nat.le_of_ble_eq_true rfl) rfl ?_
                refine ro_iincP4 dX6_tells_92 (Nat.le_of_ble_eq_true rfl) rfl ?_
                refine ro_goto 31 dX6_tells_95 (by decide) ?_
                rw [nI_1]
                first
                  | (have z := ih (i + 1) (by omega) (some (.int 1))
                     rw [show tlF (ln_n ln) th (sc_kn c) (i + 1) = some i from if_pos ⟨hfew, b82⟩] at z
                     exact z)
                  | (have z := ih (i + 1) (by omega) (some (.int 1))
                     rw [show tlF (ln_n ln) th (sc_kn c) (i + 1) = tlF (ln_n ln) th (sc_kn c) i from if_neg (fun q => b82 q.2), hT] at z
                     exact z)
                  | (have z := ih (i + 1) (by omega) (some (.int 0))
                     rw [show tlF (ln_n ln) th (sc_kn c) (i + 1) = tlF (ln_n ln) th (sc_kn c) i from if_neg (fun q => by rw [hfew] at q; exact absurd q.1 (by decide)), hT] at z
                     exact z)
              · replace b82 := (bt_sub _ (by omega) _ hK).mp b82
                refine ro_iload dX6_tells_85 rfl ?_
                refine ro_goto 91 dX6_tells_87 (by decide) ?_
                refine ro_istore_n3 dX6_tells_91 (Nat.le_of_ble_eq_true rfl) rfl ?_
                refine ro_iincP4 dX6_tells_92 (Nat.le_of_ble_eq_true rfl) rfl ?_
                refine ro_goto 31 dX6_tells_95 (by decide) ?_
                rw [nI_1]
                first
                  | (have z := ih (i + 1) (by omega) (some (.int 1))
                     rw [show tlF (ln_n ln) th (sc_kn c) (i + 1) = some i from if_pos ⟨hfew, b82⟩] at z
                     exact z)
                  | (have z := ih (i + 1) (by omega) (some (.int 1))
                     rw [show tlF (ln_n ln) th (sc_kn c) (i + 1) = tlF (ln_n ln) th (sc_kn c) i from if_neg (fun q => b82 q.2), hT] at z
                     exact z)
                  | (have z := ih (i + 1) (by omega) (some (.int 0))
                     rw [show tlF (ln_n ln) th (sc_kn c) (i + 1) = tlF (ln_n ln) th (sc_kn c) i from if_neg (fun q => by rw [hfew] at q; exact absurd q.1 (by decide)), hT] at z
                     exact z)
theorem cr_tells {g : GT} {M : MM} {L : LL} {S : ST} {b : Nat} {x w : Int32} (h : RR M L S) (ok : StOK b S) : CTQ g mX6_tells 2 [.ref (dq_A g 102), .int x, .int w] M L (QR M L (sp_tells S x w)) := by
  have hL := h.1
  have hS : ScR (M 107) (17 * 0) (ln_n (st_l S)) (st_c S) := h.2.1
  have hA := h.2.2.2.2.1
  have okl := ok.2.2.1
  have oc := ok.2.2.2.1
  have a1 := okl.1
  have hb := ok.2.2.2.2.2.2.2
  have h64 := ok.1
  refine ct_of ok_X6_tells (lv := [some (.ref (dq_A g 102)), some (.int x), some (.int w), none, none, none]) rfl (Nat.le_of_ble_eq_true rfl) ?_
  refine ro_iload_n dX6_tells_0 rfl rfl ?_
  refine ro_i2l dX6_tells_1 ?_
  refine ro_lconst (v := 0) dX6_tells_2 (by decide) ?_
  refine ro_ldc2 dX6_tells_3 lk_X6_tells_180 ?_
  refine ro_callS3 ok_X6_in (cr_in _ _ _) gX6_tells_X6_in (Nat.le_of_ble_eq_true rfl) (Nat.le_of_ble_eq_true rfl) dX6_tells_6 ?_
  rw [in_hB (n := 64) rfl (by decide)]
  refine ro_if_eq 22 dX6_tells_9 (by decide) (fun b9 => ?_) (fun b9 => ?_)
  · rw [bI_eq0] at b9
    refine ro_bipush (v := -2) dX6_tells_22 (by decide) ?_
    refine ro_iret rfl dX6_tells_24 ?_
    rw [show sp_tells S x w = (-2, S) from by unfold sp_tells; rw [if_neg (fun z => by first | (rw [b9] at z; exact absurd z.1 (by decide)) | (rw [b19] at z; exact absurd z.2 (by decide)))]]
    exact ⟨rfl, h, RScr.rf.all, rfl⟩
  · rw [bI_ne0] at b9
    refine ro_iload_n dX6_tells_12 rfl rfl ?_
    refine ro_i2l dX6_tells_13 ?_
    refine ro_lconst (v := 0) dX6_tells_14 (by decide) ?_
    refine ro_lconst (v := 1) dX6_tells_15 (by decide) ?_
    refine ro_callS3 ok_X6_in (cr_in _ _ _) gX6_tells_X6_in (Nat.le_of_ble_eq_true rfl) (Nat.le_of_ble_eq_true rfl) dX6_tells_16 ?_
    rw [in_hB (n := 2) rfl (by decide), zo_hB]
    refine ro_if_ne 25 dX6_tells_19 (by decide) (fun b19 => ?_) (fun b19 => ?_)
    · rw [bI_ne0] at b19
      obtain ⟨th, hth, rfl⟩ := hB_some (by omega) b9
      refine ro_bipush (v := -9) dX6_tells_25 (by decide) ?_
      refine ro_istore_n3 dX6_tells_27 (Nat.le_of_ble_eq_true rfl) rfl ?_
      refine ro_iconst (v := 0) dX6_tells_28 (by decide) ?_
      refine ro_istore4 dX6_tells_29 (Nat.le_of_ble_eq_true rfl) rfl ?_
      refine JW.mono ?_ (lr_tells hL okl hS oc hth b19 (2 ^ ln_n (st_l S)) 0 (by omega) none)
      rintro v M' L' ⟨rfl, rfl, rfl⟩
      refine ⟨?_, h, RScr.rf.all, rfl⟩
      show _ = some (Value.int (sp_tells S (nI th) w).1)
      unfold sp_tells
      rw [if_pos ⟨b9, b19⟩, kx_nI (by omega)]
      rfl
    · rw [bI_eq0] at b19
      refine ro_bipush (v := -2) dX6_tells_22 (by decide) ?_
      refine ro_iret rfl dX6_tells_24 ?_
      rw [show sp_tells S x w = (-2, S) from by unfold sp_tells; rw [if_neg (fun z => by first | (rw [b9] at z; exact absurd z.1 (by decide)) | (rw [b19] at z; exact absurd z.2 (by decide)))]]
      exact ⟨rfl, h, RScr.rf.all, rfl⟩
theorem lr_fits {g : GT} {M : MM} {L : LL} {h : HD} (hH : RHd M h) (okh : HdOK h) {k : Nat} {w q1 q2 : Int32} {Q : Option Value → MM → LL → Prop} (hk : k < 30) (K : ∀ x7 : Option Value, JW g mX6_ears 1 Q M L 121 [some (.ref (dq_A g 102)), some (.int w), some (.int q1), some (.int q2), some (.int (nI k)), some (.int (bI (fitB h (k / 10) (k % 10) (hd_n h)))), some (.int (nI (hd_n h))), x7] []) : ∀ (f i : Nat), i + f = hd_n h → ∀ x7 : Option Value, JW g mX6_ears 1 Q M L 34 [some (.ref (dq_A g 102)), some (.int w), some (.int q1), some (.int q2), some (.int (nI k)), some (.int (bI (fitB h (k / 10) (k % 10) i))), some (.int (nI i)), x7] [] := by
  have h6 := okh.1
  intro f
  induction f with
  | zero =>
    intro i hi x7
    refine ro_iload dX6_ears_34 rfl ?_
    refine ro_aload_n dX6_ears_36 rfl rfl ?_
    refine gf_X6_heard  in_X6_ears_X6 lk_X6_ears_199 dX6_ears_37 ?_
    rw [hH.1]
    refine ro_icmp_ge 121 dX6_ears_40 (by decide) (fun b40 => ?_) (fun b40 => ?_)
    · have e : i = hd_n h := by omega
      subst e
      exact K x7
    · exact absurd (nI_le (by omega) (by omega)) b40
  | succ f ih =>
    intro i hi x7
    have he := earZ_b (k / 10)
    have hlr := okh.2 i (by omega)
    refine ro_iload dX6_ears_34 rfl ?_
    refine ro_aload_n dX6_ears_36 rfl rfl ?_
    refine gf_X6_heard  in_X6_ears_X6 lk_X6_ears_199 dX6_ears_37 ?_
    rw [hH.1]
    refine ro_icmp_ge 121 dX6_ears_40 (by decide) (fun b40 => ?_) (fun b40 => ?_)
    · exact absurd b40 (nI_ge (by omega) (by omega))
    · refine ro_aload_n dX6_ears_43 rfl rfl ?_
      refine gf_X6_heardLoud  in_X6_ears_X6 lk_X6_ears_40 dX6_ears_44 ?_
      refine ro_iload dX6_ears_47 rfl ?_
      refine ro_ai ar_113 rfl (by omega) dX6_ears_49 ?_
      rw [hH.2.1 i (by omega)]
      refine ro_iload dX6_ears_50 rfl ?_
      refine ro_bipush (v := 10) dX6_ears_52 (by decide) ?_
      refine ro_idiv dX6_ears_54 (by decide) ?_
      refine ro_top (show _ = nI (k / 10) from pk_div (d := 10) (by omega) (by decide) (by decide)) ?_
      refine ro_callS1 ok_X6_earOf (cr_earOf (k := k / 10) (by omega)) gX6_ears_X6_earOf (Nat.le_of_ble_eq_true rfl) (Nat.le_of_ble_eq_true rfl) dX6_ears_55 ?_
      refine ro_iadd dX6_ears_58 ?_
      refine ro_top (show _ = oI ((hd_l h i : Int) + earZ (k / 10)) from by rw [nI_oI, oI_add]) ?_
      refine ro_iload dX6_ears_59 rfl ?_
      refine ro_bipush (v := 10) dX6_ears_61 (by decide) ?_
      refine ro_irem dX6_ears_63 (by decide) ?_
      refine ro_top (show _ = nI (k % 10) from pk_rem (d := 10) (by omega) (by decide) (by decide)) ?_
      refine ro_aload_n dX6_ears_64 rfl rfl ?_
      refine gf_X6_heardRain  in_X6_ears_X6 lk_X6_ears_43 dX6_ears_65 ?_
      refine ro_iload dX6_ears_68 rfl ?_
      refine ro_ai ar_114 rfl (by omega) dX6_ears_70 ?_
      rw [hH.2.2.1 i (by omega)]
      refine ro_iadd dX6_ears_71 ?_
      refine ro_top (show _ = oI ((k % 10 + hd_r h i : Nat) : Int) from by rw [nI_add, nI_oI]) ?_
      refine ro_icmp_le 79 dX6_ears_72 (by decide) (fun b72 => ?_) (fun b72 => ?_)
      · rw [oI_le (by omega) (by omega) (by omega) (by omega)] at b72
        refine ro_iconst (v := 0) dX6_ears_79 (by decide) ?_
        refine ro_istore7 dX6_ears_80 (Nat.le_of_ble_eq_true rfl) rfl ?_
        refine ro_iload dX6_ears_82 rfl ?_
        refine ro_if_eq 112 dX6_ears_84 (by decide) (fun b84 => ?_) (fun b84 => ?_)
        · rw [bI_eq0] at b84
          refine ro_iconst (v := 0) dX6_ears_112 (by decide) ?_
          refine ro_istore5 dX6_ears_113 (Nat.le_of_ble_eq_true rfl) rfl ?_
          refine ro_iincP6 dX6_ears_115 (Nat.le_of_ble_eq_true rfl) rfl ?_
          refine ro_goto 34 dX6_ears_118 (by decide) ?_
          rw [nI_1]
          have z := ih (i + 1) (by omega)
          unfold fitB at z
          first
            | (rw [b84, Bool.false_and] at z; exact z _)
            | (rw [b84, Bool.true_and, b97, decide_eq_true (by omega)] at z; exact z _)
            | (rw [b84, Bool.true_and, b97, decide_eq_false (by omega)] at z; exact z _)
        · rw [bI_ne0] at b84
          refine ro_iload dX6_ears_87 rfl ?_
          refine ro_aload_n dX6_ears_89 rfl rfl ?_
          refine gf_X6_heardIs  in_X6_ears_X6 lk_X6_ears_46 dX6_ears_90 ?_
          refine ro_iload dX6_ears_93 rfl ?_
          refine ro_ai ar_115 rfl (by omega) dX6_ears_95 ?_
          rw [hH.2.2.2 i (by omega)]
          refine ro_iconst (v := 1) dX6_ears_96 (by decide) ?_
          refine ro_icmp_ne 104 dX6_ears_97 (by decide) (fun b97 => ?_) (fun b97 => ?_)
          · rw [bI_eq1, Bool.not_eq_true] at b97
            refine ro_iconst (v := 0) dX6_ears_104 (by decide) ?_
            refine ro_icmp_ne 112 dX6_ears_105 (by decide) (fun b105 => ?_) (fun b105 => ?_)
            · exact absurd b105 (by decide)
            · refine ro_iconst (v := 1) dX6_ears_108 (by decide) ?_
              refine ro_goto 113 dX6_ears_109 (by decide) ?_
              refine ro_istore5 dX6_ears_113 (Nat.le_of_ble_eq_true rfl) rfl ?_
              refine ro_iincP6 dX6_ears_115 (Nat.le_of_ble_eq_true rfl) rfl ?_
              refine ro_goto 34 dX6_ears_118 (by decide) ?_
              rw [nI_1]
              have z := ih (i + 1) (by omega)
              unfold fitB at z
              first
                | (rw [b84, Bool.false_and] at z; exact z _)
                | (rw [b84, Bool.true_and, b97, decide_eq_true (by omega)] at z; exact z _)
                | (rw [b84, Bool.true_and, b97, decide_eq_false (by omega)] at z; exact z _)
          · rw [bI_eq1] at b97
            refine ro_iconst (v := 1) dX6_ears_100 (by decide) ?_
            refine ro_goto 105 dX6_ears_101 (by decide) ?_
            refine ro_icmp_ne 112 dX6_ears_105 (by decide) (fun b105 => ?_) (fun b105 => ?_)
            · refine ro_iconst (v := 0) dX6_ears_112 (by decide) ?_
              refine ro_istore5 dX6_ears_113 (Nat.le_of_ble_eq_true rfl) rfl ?_
              refine ro_iincP6 dX6_ears_115 (Nat.le_of_ble_eq_true rfl) rfl ?_
              refine ro_goto 34 dX6_ears_118 (by decide) ?_
              rw [nI_1]
              have z := ih (i + 1) (by omega)
              unfold fitB at z
              first
                | (rw [b84, Bool.false_and] at z; exact z _)
                | (rw [b84, Bool.true_and, b97, decide_eq_true (by omega)] at z; exact z _)
                | (rw [b84, Bool.true_and, b97, decide_eq_false (by omega)] at z; exact z _)
            · exact absurd b105 (by decide)
      · rw [oI_le (by omega) (by omega) (by omega) (by omega)] at b72
        refine ro_iconst (v := 1) dX6_ears_75 (by decide) ?_
        refine ro_goto 80 dX6_ears_76 (by decide) ?_
        refine ro_istore7 dX6_ears_80 (Nat.le_of_ble_eq_true rfl) rfl ?_
        refine ro_iload dX6_ears_82 rfl ?_
        refine ro_if_eq 112 dX6_ears_84 (by decide) (fun b84 => ?_) (fun b84 => ?_)
        · rw [bI_eq0] at b84
          refine ro_iconst (v := 0) dX6_ears_112 (by decide) ?_
          refine ro_istore5 dX6_ears_113 (Nat.le_of_ble_eq_true rfl) rfl ?_
          refine ro_iincP6 dX6_ears_115 (Nat.le_of_ble_eq_true rfl) rfl ?_
          refine ro_goto 34 dX6_ears_118 (by decide) ?_
          rw [nI_1]
          have z := ih (i + 1) (by omega)
          unfold fitB at z
          first
            | (rw [b84, Bool.false_and] at z; exact z _)
            | (rw [b84, Bool.true_and, b97, decide_eq_true (by omega)] at z; exact z _)
            | (rw [b84, Bool.true_and, b97, decide_eq_false (by omega)] at z; exact z _)
        · rw [bI_ne0] at b84
          refine ro_iload dX6_ears_87 rfl ?_
          refine ro_aload_n dX6_ears_89 rfl rfl ?_
          refine gf_X6_heardIs  in_X6_ears_X6 lk_X6_ears_46 dX6_ears_90 ?_
          refine ro_iload dX6_ears_93 rfl ?_
          refine ro_ai ar_115 rfl (by omega) dX6_ears_95 ?_
          rw [hH.2.2.2 i (by omega)]
          refine ro_iconst (v := 1) dX6_ears_96 (by decide) ?_
          refine ro_icmp_ne 104 dX6_ears_97 (by decide) (fun b97 => ?_) (fun b97 => ?_)
          · rw [bI_eq1, Bool.not_eq_true] at b97
            refine ro_iconst (v := 0) dX6_ears_104 (by decide) ?_
            refine ro_icmp_ne 112 dX6_ears_105 (by decide) (fun b105 => ?_) (fun b105 => ?_)
            · refine ro_iconst (v := 0) dX6_ears_112 (by decide) ?_
              refine ro_istore5 dX6_ears_113 (Nat.le_of_ble_eq_true rfl) rfl ?_
              refine ro_iincP6 dX6_ears_115 (Nat.le_of_ble_eq_true rfl) rfl ?_
              refine ro_goto 34 dX6_ears_118 (by decide) ?_
              rw [nI_1]
              have z := ih (i + 1) (by omega)
              unfold fitB at z
              first
                | (rw [b84, Bool.false_and] at z; exact z _)
                | (rw [b84, Bool.true_and, b97, decide_eq_true (by omega)] at z; exact z _)
                | (rw [b84, Bool.true_and, b97, decide_eq_false (by omega)] at z; exact z _)
            · exact absurd b105 (by decide)
          · rw [bI_eq1] at b97
            refine ro_iconst (v := 1) dX6_ears_100 (by decide) ?_
            refine ro_goto 105 dX6_ears_101 (by decide) ?_
            refine ro_icmp_ne 112 dX6_ears_105 (by decide) (fun b105 => ?_) (fun b105 => ?_)
            · exact absurd b105 (by decide)
            · refine ro_iconst (v := 1) dX6_ears_108 (by decide) ?_
              refine ro_goto 113 dX6_ears_109 (by decide) ?_
              refine ro_istore5 dX6_ears_113 (Nat.le_of_ble_eq_true rfl) rfl ?_
              refine ro_iincP6 dX6_ears_115 (Nat.le_of_ble_eq_true rfl) rfl ?_
              refine ro_goto 34 dX6_ears_118 (by decide) ?_
              rw [nI_1]
              have z := ih (i + 1) (by omega)
              unfold fitB at z
              first
                | (rw [b84, Bool.false_and] at z; exact z _)
                | (rw [b84, Bool.true_and, b97, decide_eq_true (by omega)] at z; exact z _)
                | (rw [b84, Bool.true_and, b97, decide_eq_false (by omega)] at z; exact z _)
theorem lr_ears {g : GT} {M : MM} {L : LL} {h : HD} (hH : RHd M h) (okh : HdOK h) {w : Int32} : ∀ (f i : Nat), i + f = 30 → ∀ x5 x6 x7 : Option Value, JW g mX6_ears 1 (Rt (some (.int (if w = 0 then nI (earF h 30).1 else (earF h 30).2))) M L) M L 21 [some (.ref (dq_A g 102)), some (.int w), some (.int (nI (earF h i).1)), some (.int (earF h i).2), some (.int (nI i)), x5, x6, x7] [] := by
  have h6 := okh.1
  intro f
  induction f with
  | zero =>
    intro i hi x5 x6 x7
    refine ro_iload dX6_ears_21 rfl ?_
    refine ro_bipush (v := 30) dX6_ears_23 (by decide) ?_
    refine ro_icmp_ge 156 dX6_ears_25 (by decide) (fun b25 => ?_) (fun b25 => ?_)
    · refine ro_iload_n dX6_ears_156 rfl rfl ?_
      refine ro_if_ne 164 dX6_ears_157 (by decide) (fun b157 => ?_) (fun b157 => ?_)
      · refine ro_iload_n dX6_ears_164 rfl rfl ?_
        refine ro_iret rfl dX6_ears_165 ?_
        have e : i = 30 := by omega
        subst e
        refine ⟨?_, rfl, rfl⟩
        first
          | (rw [if_pos b157]; done)
          | (rw [if_neg b157]; done)
      · refine ro_iload_n dX6_ears_160 rfl rfl ?_
        refine ro_goto 165 dX6_ears_161 (by decide) ?_
        refine ro_iret rfl dX6_ears_165 ?_
        have e : i = 30 := by omega
        subst e
        refine ⟨?_, rfl, rfl⟩
        first
          | (rw [if_pos b157]; done)
          | (rw [if_neg b157]; done)
    · exact absurd (nI_le (a := 30) (by omega) (by omega)) b25
  | succ f ih =>
    intro i hi x5 x6 x7
    have hle := earF_le h i
    refine ro_iload dX6_ears_21 rfl ?_
    refine ro_bipush (v := 30) dX6_ears_23 (by decide) ?_
    refine ro_icmp_ge 156 dX6_ears_25 (by decide) (fun b25 => ?_) (fun b25 => ?_)
    · exact absurd b25 (nI_ge (b := 30) (by omega) (by decide))
    · refine ro_iconst (v := 1) dX6_ears_28 (by decide) ?_
      refine ro_istore5 dX6_ears_29 (Nat.le_of_ble_eq_true rfl) rfl ?_
      refine ro_iconst (v := 0) dX6_ears_31 (by decide) ?_
      refine ro_istore6 dX6_ears_32 (Nat.le_of_ble_eq_true rfl) rfl ?_
      refine lr_fits hH okh (k := i) (by omega) (fun x7 => ?_) (hd_n h) 0 (by omega) _
      refine ro_iload dX6_ears_121 rfl ?_
      refine ro_if_eq 135 dX6_ears_123 (by decide) (fun b123 => ?_) (fun b123 => ?_)
      · rw [bI_eq0] at b123
        refine ro_iload_n dX6_ears_135 rfl rfl ?_
        refine ro_istore_n3 dX6_ears_136 (Nat.le_of_ble_eq_true rfl) rfl ?_
        refine ro_iload_n dX6_ears_137 rfl rfl ?_
        refine ro_iload dX6_ears_138 rfl ?_
        refine ro_if_eq 147 dX6_ears_140 (by decide) (fun b140 => ?_) (fun b140 => ?_)
        · rw [bI_eq0] at b140
          refine ro_iconst (v := 0) dX6_ears_147 (by decide) ?_
          refine ro_iadd dX6_ears_148 ?_
          refine ro_istore_n2 dX6_ears_149 (Nat.le_of_ble_eq_true rfl) rfl ?_
          refine ro_iincP4 dX6_ears_150 (Nat.le_of_ble_eq_true rfl) rfl ?_
          refine ro_goto 21 dX6_ears_153 (by decide) ?_
          simp only [nI_1]
          have z := ih (i + 1) (by omega) (some (.int (bI (fitB h (i / 10) (i % 10) (hd_n h))))) (some (.int (nI (hd_n h)))) x7
          first
            | (rw [b123] at b140; exact absurd b140 (by decide))
            | (rw [show earF h (i + 1) = ((earF h i).1 + 1, nI i) from (if_pos b123).trans (by rw [if_pos b127])] at z; exact z)
            | (rw [show earF h (i + 1) = ((earF h i).1 + 1, (earF h i).2) from (if_pos b123).trans (by rw [if_neg b127])] at z; exact z)
            | (rw [show earF h (i + 1) = earF h i from if_neg (by rw [b123]; decide)] at z; rw [show nI (earF h i).1 + 0 = nI (earF h i).1 from nI_add _ 0]; exact z)
        · rw [bI_ne0] at b140
          refine ro_iconst (v := 1) dX6_ears_143 (by decide) ?_
          refine ro_goto 148 dX6_ears_144 (by decide) ?_
          refine ro_iadd dX6_ears_148 ?_
          refine ro_istore_n2 dX6_ears_149 (Nat.le_of_ble_eq_true rfl) rfl ?_
          refine ro_iincP4 dX6_ears_150 (Nat.le_of_ble_eq_true rfl) rfl ?_
          refine ro_goto 21 dX6_ears_153 (by decide) ?_
          simp only [nI_1]
          have z := ih (i + 1) (by omega) (some (.int (bI (fitB h (i / 10) (i % 10) (hd_n h))))) (some (.int (nI (hd_n h)))) x7
          first
            | (rw [b123] at b140; exact absurd b140 (by decide))
            | (rw [show earF h (i + 1) = ((earF h i).1 + 1, nI i) from (if_pos b123).trans (by rw [if_pos b127])] at z; exact z)
            | (rw [show earF h (i + 1) = ((earF h i).1 + 1, (earF h i).2) from (if_pos b123).trans (by rw [if_neg b127])] at z; exact z)
            | (rw [show earF h (i + 1) = earF h i from if_neg (by rw [b123]; decide)] at z; rw [show nI (earF h i).1 + 0 = nI (earF h i).1 from nI_add _ 0]; exact z)
      · rw [bI_ne0] at b123
        refine ro_iload_n dX6_ears_126 rfl rfl ?_
        refine ro_if_ne 135 dX6_ears_127 (by decide) (fun b127 => ?_) (fun b127 => ?_)
        · replace b127 : ¬ (earF h i).1 = 0 := fun z => b127 (by rw [z]; rfl)
          refine ro_iload_n dX6_ears_135 rfl rfl ?_
          refine ro_istore_n3 dX6_ears_136 (Nat.le_of_ble_eq_true rfl) rfl ?_
          refine ro_iload_n dX6_ears_137 rfl rfl ?_
          refine ro_iload dX6_ears_138 rfl ?_
          refine ro_if_eq 147 dX6_ears_140 (by decide) (fun b140 => ?_) (fun b140 => ?_)
          · rw [bI_eq0] at b140
            refine ro_iconst (v := 0) dX6_ears_147 (by decide) ?_
            refine ro_iadd dX6_ears_148 ?_
            refine ro_istore_n2 dX6_ears_149 (Nat.le_of_ble_eq_true rfl) rfl ?_
            refine ro_iincP4 dX6_ears_150 (Nat.le_of_ble_eq_true rfl) rfl ?_
            refine ro_goto 21 dX6_ears_153 (by decide) ?_
            simp only [nI_1]
            have z := ih (i + 1) (by omega) (some (.int (bI (fitB h (i / 10) (i % 10) (hd_n h))))) (some (.int (nI (hd_n h)))) x7
            first
              | (rw [b123] at b140; exact absurd b140 (by decide))
              | (rw [show earF h (i + 1) = ((earF h i).1 + 1, nI i) from (if_pos b123).trans (by rw [if_pos b127])] at z; exact z)
              | (rw [show earF h (i + 1) = ((earF h i).1 + 1, (earF h i).2) from (if_pos b123).trans (by rw [if_neg b127])] at z; exact z)
              | (rw [show earF h (i + 1) = earF h i from if_neg (by rw [b123]; decide)] at z; rw [show nI (earF h i).1 + 0 = nI (earF h i).1 from nI_add _ 0]; exact z)
          · rw [bI_ne0] at b140
            refine ro_iconst (v := 1) dX6_ears_143 (by decide) ?_
            refine ro_goto 148 dX6_ears_144 (by decide) ?_
            refine ro_iadd dX6_ears_148 ?_
            refine ro_istore_n2 dX6_ears_149 (Nat.le_of_ble_eq_true rfl) rfl ?_
            refine ro_iincP4 dX6_ears_150 (Nat.le_of_ble_eq_true rfl) rfl ?_
            refine ro_goto 21 dX6_ears_153 (by decide) ?_
            simp only [nI_1]
            have z := ih (i + 1) (by omega) (some (.int (bI (fitB h (i / 10) (i % 10) (hd_n h))))) (some (.int (nI (hd_n h)))) x7
            first
              | (rw [b123] at b140; exact absurd b140 (by decide))
              | (rw [show earF h (i + 1) = ((earF h i).1 + 1, nI i) from (if_pos b123).trans (by rw [if_pos b127])] at z; exact z)
              | (rw [show earF h (i + 1) = ((earF h i).1 + 1, (earF h i).2) from (if_pos b123).trans (by rw [if_neg b127])] at z; exact z)
              | (rw [show earF h (i + 1) = earF h i from if_neg (by rw [b123]; decide)] at z; rw [show nI (earF h i).1 + 0 = nI (earF h i).1 from nI_add _ 0]; exact z)
        · replace b127 : (earF h i).1 = 0 := (nI_eq (b := 0) (by omega) (by decide)).mp b127
          refine ro_iload dX6_ears_130 rfl ?_
          refine ro_goto 136 dX6_ears_132 (by decide) ?_
          refine ro_istore_n3 dX6_ears_136 (Nat.le_of_ble_eq_true rfl) rfl ?_
          refine ro_iload_n dX6_ears_137 rfl rfl ?_
          refine ro_iload dX6_ears_138 rfl ?_
          refine ro_if_eq 147 dX6_ears_140 (by decide) (fun b140 => ?_) (fun b140 => ?_)
          · rw [bI_eq0] at b140
            refine ro_iconst (v := 0) dX6_ears_147 (by decide) ?_
            refine ro_iadd dX6_ears_148 ?_
            refine ro_istore_n2 dX6_ears_149 (Nat.le_of_ble_eq_true rfl) rfl ?_
            refine ro_iincP4 dX6_ears_150 (Nat.le_of_ble_eq_true rfl) rfl ?_
            refine ro_goto 21 dX6_ears_153 (by decide) ?_
            simp only [nI_1]
            have z := ih (i + 1) (by omega) (some (.int (bI (fitB h (i / 10) (i % 10) (hd_n h))))) (some (.int (nI (hd_n h)))) x7
            first
              | (rw [b123] at b140; exact absurd b140 (by decide))
              | (rw [show earF h (i + 1) = ((earF h i).1 + 1, nI i) from (if_pos b123).trans (by rw [if_pos b127])] at z; exact z)
              | (rw [show earF h (i + 1) = ((earF h i).1 + 1, (earF h i).2) from (if_pos b123).trans (by rw [if_neg b127])] at z; exact z)
              | (rw [show earF h (i + 1) = earF h i from if_neg (by rw [b123]; decide)] at z; rw [show nI (earF h i).1 + 0 = nI (earF h i).1 from nI_add _ 0]; exact z)
          · rw [bI_ne0] at b140
            refine ro_iconst (v := 1) dX6_ears_143 (by decide) ?_
            refine ro_goto 148 dX6_ears_144 (by decide) ?_
            refine ro_iadd dX6_ears_148 ?_
            refine ro_istore_n2 dX6_ears_149 (Nat.le_of_ble_eq_true rfl) rfl ?_
            refine ro_iincP4 dX6_ears_150 (Nat.le_of_ble_eq_true rfl) rfl ?_
            refine ro_goto 21 dX6_ears_153 (by decide) ?_
            simp only [nI_1]
            have z := ih (i + 1) (by omega) (some (.int (bI (fitB h (i / 10) (i % 10) (hd_n h))))) (some (.int (nI (hd_n h)))) x7
            first
              | (rw [b123] at b140; exact absurd b140 (by decide))
              | (rw [show earF h (i + 1) = ((earF h i).1 + 1, nI i) from (if_pos b123).trans (by rw [if_pos b127])] at z; exact z)
              | (rw [show earF h (i + 1) = ((earF h i).1 + 1, (earF h i).2) from (if_pos b123).trans (by rw [if_neg b127])] at z; exact z)
              | (rw [show earF h (i + 1) = earF h i from if_neg (by rw [b123]; decide)] at z; rw [show nI (earF h i).1 + 0 = nI (earF h i).1 from nI_add _ 0]; exact z)
theorem cr_ears {g : GT} {M : MM} {L : LL} {S : ST} {b : Nat} {w : Int32} (h : RR M L S) (ok : StOK b S) : CTQ g mX6_ears 1 [.ref (dq_A g 102), .int w] M L (QR M L (sp_ears S w)) := by
  have hL := h.1
  have hS : ScR (M 107) (17 * 0) (ln_n (st_l S)) (st_c S) := h.2.1
  have hA := h.2.2.2.2.1
  have okl := ok.2.2.1
  have oc := ok.2.2.2.1
  have a1 := okl.1
  have hb := ok.2.2.2.2.2.2.2
  have h64 := ok.1
  refine ct_of ok_X6_ears (lv := [some (.ref (dq_A g 102)), some (.int w), none, none, none, none, none, none]) rfl (Nat.le_of_ble_eq_true rfl) ?_
  refine ro_iload_n dX6_ears_0 rfl rfl ?_
  refine ro_i2l dX6_ears_1 ?_
  refine ro_lconst (v := 0) dX6_ears_2 (by decide) ?_
  refine ro_lconst (v := 1) dX6_ears_3 (by decide) ?_
  refine ro_callS3 ok_X6_in (cr_in _ _ _) gX6_ears_X6_in (Nat.le_of_ble_eq_true rfl) (Nat.le_of_ble_eq_true rfl) dX6_ears_4 ?_
  rw [in_hB (n := 2) rfl (by decide), zo_hB]
  refine ro_if_ne 13 dX6_ears_7 (by decide) (fun b7 => ?_) (fun b7 => ?_)
  · rw [bI_ne0] at b7
    refine ro_iconst (v := 0) dX6_ears_13 (by decide) ?_
    refine ro_istore_n2 dX6_ears_14 (Nat.le_of_ble_eq_true rfl) rfl ?_
    refine ro_bipush (v := -9) dX6_ears_15 (by decide) ?_
    refine ro_istore_n3 dX6_ears_17 (Nat.le_of_ble_eq_true rfl) rfl ?_
    refine ro_iconst (v := 0) dX6_ears_18 (by decide) ?_
    refine ro_istore4 dX6_ears_19 (Nat.le_of_ble_eq_true rfl) rfl ?_
    refine JW.mono ?_ (lr_ears (w := w) h.2.2.2.2.2.2.1 ok.2.2.2.2.2.2.1 30 0 rfl none none none)
    rintro v M' L' ⟨rfl, rfl, rfl⟩
    refine ⟨?_, h, RScr.rf.all, rfl⟩
    show _ = some (Value.int (sp_ears S w).1)
    unfold sp_ears
    rw [if_pos b7]
  · rw [bI_eq0] at b7
    refine ro_bipush (v := -2) dX6_ears_10 (by decide) ?_
    refine ro_iret rfl dX6_ears_12 ?_
    rw [show sp_ears S w = (-2, S) from by unfold sp_ears; rw [if_neg (by rw [b7]; decide)]]
    exact ⟨rfl, h, RScr.rf.all, rfl⟩
def fct : Nat → Nat
  | 0 => 1
  | n + 1 => fct n * (n + 1)
theorem cr_fact {g : GT} {M : MM} {L : LL} {n : Nat} (hn : n ≤ 5) : CT g mX6_factorial 0 [.int (nI n)] M L (some (.int (nI (fct n)))) M L := by
  refine ct_of ok_X6_factorial (lv := [some (.int (nI n)), none, none]) rfl (Nat.le_of_ble_eq_true rfl) ?_
  rcases (show n = 0 ∨ n = 1 ∨ n = 2 ∨ n = 3 ∨ n = 4 ∨ n = 5 by omega) with rfl | rfl | rfl | rfl | rfl | rfl
  · refine ro_iconst (v := 1) dX6_factorial_0 (by decide) ?_
    refine ro_istore_n1 dX6_factorial_1 (Nat.le_of_ble_eq_true rfl) rfl ?_
    refine ro_iconst (v := 2) dX6_factorial_2 (by decide) ?_
    refine ro_istore_n2 dX6_factorial_3 (Nat.le_of_ble_eq_true rfl) rfl ?_
    refine ro_iload_n dX6_factorial_4 rfl rfl ?_
    refine ro_iload_n dX6_factorial_5 rfl rfl ?_
    refine ro_icmp_gt 19 dX6_factorial_6 (by decide) (fun b6 => ?_) (fun b6 => ?_)
    · refine ro_iload_n dX6_factorial_19 rfl rfl ?_
      refine ro_iret rfl dX6_factorial_20 ?_
      exact ⟨rfl, rfl, rfl⟩
    · exact absurd b6 (by decide)
  · refine ro_iconst (v := 1) dX6_factorial_0 (by decide) ?_
    refine ro_istore_n1 dX6_factorial_1 (Nat.le_of_ble_eq_true rfl) rfl ?_
    refine ro_iconst (v := 2) dX6_factorial_2 (by decide) ?_
    refine ro_istore_n2 dX6_factorial_3 (Nat.le_of_ble_eq_true rfl) rfl ?_
    refine ro_iload_n dX6_factorial_4 rfl rfl ?_
    refine ro_iload_n dX6_factorial_5 rfl rfl ?_
    refine ro_icmp_gt 19 dX6_factorial_6 (by decide) (fun b6 => ?_) (fun b6 => ?_)
    · refine ro_iload_n dX6_factorial_19 rfl rfl ?_
      refine ro_iret rfl dX6_factorial_20 ?_
      exact ⟨rfl, rfl, rfl⟩
    · exact absurd b6 (by decide)
  · refine ro_iconst (v := 1) dX6_factorial_0 (by decide) ?_
    refine ro_istore_n1 dX6_factorial_1 (Nat.le_of_ble_eq_true rfl) rfl ?_
    refine ro_iconst (v := 2) dX6_factorial_2 (by decide) ?_
    refine ro_istore_n2 dX6_factorial_3 (Nat.le_of_ble_eq_true rfl) rfl ?_
    refine ro_iload_n dX6_factorial_4 rfl rfl ?_
    refine ro_iload_n dX6_factorial_5 rfl rfl ?_
    refine ro_icmp_gt 19 dX6_factorial_6 (by decide) (fun b6 => ?_) (fun b6 => ?_)
    · exact absurd b6 (by decide)
    · refine ro_iload_n dX6_factorial_9 rfl rfl ?_
      refine ro_iload_n dX6_factorial_10 rfl rfl ?_
      refine ro_imul dX6_factorial_11 ?_
      refine ro_istore_n1 dX6_factorial_12 (Nat.le_of_ble_eq_true rfl) rfl ?_
      refine ro_iincP2 dX6_factorial_13 (Nat.le_of_ble_eq_true rfl) rfl ?_
      refine ro_goto 4 dX6_factorial_16 (by decide) ?_
      refine ro_iload_n dX6_factorial_4 rfl rfl ?_
      refine ro_iload_n dX6_factorial_5 rfl rfl ?_
      refine ro_icmp_gt 19 dX6_factorial_6 (by decide) (fun b6 => ?_) (fun b6 => ?_)
      · refine ro_iload_n dX6_factorial_19 rfl rfl ?_
        refine ro_iret rfl dX6_factorial_20 ?_
        exact ⟨rfl, rfl, rfl⟩
      · exact absurd b6 (by decide)
  · refine ro_iconst (v := 1) dX6_factorial_0 (by decide) ?_
    refine ro_istore_n1 dX6_factorial_1 (Nat.le_of_ble_eq_true rfl) rfl ?_
    refine ro_iconst (v := 2) dX6_factorial_2 (by decide) ?_
    refine ro_istore_n2 dX6_factorial_3 (Nat.le_of_ble_eq_true rfl) rfl ?_
    refine ro_iload_n dX6_factorial_4 rfl rfl ?_
    refine ro_iload_n dX6_factorial_5 rfl rfl ?_
    refine ro_icmp_gt 19 dX6_factorial_6 (by decide) (fun b6 => ?_) (fun b6 => ?_)
    · exact absurd b6 (by decide)
    · refine ro_iload_n dX6_factorial_9 rfl rfl ?_
      refine ro_iload_n dX6_factorial_10 rfl rfl ?_
      refine ro_imul dX6_factorial_11 ?_
      refine ro_istore_n1 dX6_factorial_12 (Nat.le_of_ble_eq_true rfl) rfl ?_
      refine ro_iincP2 dX6_factorial_13 (Nat.le_of_ble_eq_true rfl) rfl ?_
      refine ro_goto 4 dX6_factorial_16 (by decide) ?_
      refine ro_iload_n dX6_factorial_4 rfl rfl ?_
      refine ro_iload_n dX6_factorial_5 rfl rfl ?_
      refine ro_icmp_gt 19 dX6_factorial_6 (by decide) (fun b6 => ?_) (fun b6 => ?_)
      · exact absurd b6 (by decide)
      · refine ro_iload_n dX6_factorial_9 rfl rfl ?_
        refine ro_iload_n dX6_factorial_10 rfl rfl ?_
        refine ro_imul dX6_factorial_11 ?_
        refine ro_istore_n1 dX6_factorial_12 (Nat.le_of_ble_eq_true rfl) rfl ?_
        refine ro_iincP2 dX6_factorial_13 (Nat.le_of_ble_eq_true rfl) rfl ?_
        refine ro_goto 4 dX6_factorial_16 (by decide) ?_
        refine ro_iload_n dX6_factorial_4 rfl rfl ?_
        refine ro_iload_n dX6_factorial_5 rfl rfl ?_
        refine ro_icmp_gt 19 dX6_factorial_6 (by decide) (fun b6 => ?_) (fun b6 => ?_)
        · refine ro_iload_n dX6_factorial_19 rfl rfl ?_
          refine ro_iret rfl dX6_factorial_20 ?_
          exact ⟨rfl, rfl, rfl⟩
        · exact absurd b6 (by decide)
  · refine ro_iconst (v := 1) dX6_factorial_0 (by decide) ?_
    refine ro_istore_n1 dX6_factorial_1 (Nat.le_of_ble_eq_true rfl) rfl ?_
    refine ro_iconst (v := 2) dX6_factorial_2 (by decide) ?_
    refine ro_istore_n2 dX6_factorial_3 (Nat.le_of_ble_eq_true rfl) rfl ?_
    refine ro_iload_n dX6_factorial_4 rfl rfl ?_
    refine ro_iload_n dX6_factorial_5 rfl rfl ?_
    refine ro_icmp_gt 19 dX6_factorial_6 (by decide) (fun b6 => ?_) (fun b6 => ?_)
    · exact absurd b6 (by decide)
    · refine ro_iload_n dX6_factorial_9 rfl rfl ?_
      refine ro_iload_n dX6_factorial_10 rfl rfl ?_
      refine ro_imul dX6_factorial_11 ?_
      refine ro_istore_n1 dX6_factorial_12 (Nat.le_of_ble_eq_true rfl) rfl ?_
      refine ro_iincP2 dX6_factorial_13 (Nat.le_of_ble_eq_true rfl) rfl ?_
      refine ro_goto 4 dX6_factorial_16 (by decide) ?_
      refine ro_iload_n dX6_factorial_4 rfl rfl ?_
      refine ro_iload_n dX6_factorial_5 rfl rfl ?_
      refine ro_icmp_gt 19 dX6_factorial_6 (by decide) (fun b6 => ?_) (fun b6 => ?_)
      · exact absurd b6 (by decide)
      · refine ro_iload_n dX6_factorial_9 rfl rfl ?_
        refine ro_iload_n dX6_factorial_10 rfl rfl ?_
        refine ro_imul dX6_factorial_11 ?_
        refine ro_istore_n1 dX6_factorial_12 (Nat.le_of_ble_eq_true rfl) rfl ?_
        refine ro_iincP2 dX6_factorial_13 (Nat.le_of_ble_eq_true rfl) rfl ?_
        refine ro_goto 4 dX6_factorial_16 (by decide) ?_
        refine ro_iload_n dX6_factorial_4 rfl rfl ?_
        refine ro_iload_n dX6_factorial_5 rfl rfl ?_
        refine ro_icmp_gt 19 dX6_factorial_6 (by decide) (fun b6 => ?_) (fun b6 => ?_)
        · exact absurd b6 (by decide)
        · refine ro_iload_n dX6_factorial_9 rfl rfl ?_
          refine ro_iload_n dX6_factorial_10 rfl rfl ?_
          refine ro_imul dX6_factorial_11 ?_
          refine ro_istore_n1 dX6_factorial_12 (Nat.le_of_ble_eq_true rfl) rfl ?_
          refine ro_iincP2 dX6_factorial_13 (Nat.le_of_ble_eq_true rfl) rfl ?_
          refine ro_goto 4 dX6_factorial_16 (by decide) ?_
          refine ro_iload_n dX6_factorial_4 rfl rfl ?_
          refine ro_iload_n dX6_factorial_5 rfl rfl ?_
          refine ro_icmp_gt 19 dX6_factorial_6 (by decide) (fun b6 => ?_) (fun b6 => ?_)
          · refine ro_iload_n dX6_factorial_19 rfl rfl ?_
            refine ro_iret rfl dX6_factorial_20 ?_
            exact ⟨rfl, rfl, rfl⟩
          · exact absurd b6 (by decide)
  · refine ro_iconst (v := 1) dX6_factorial_0 (by decide) ?_
    refine ro_istore_n1 dX6_factorial_1 (Nat.le_of_ble_eq_true rfl) rfl ?_
    refine ro_iconst (v := 2) dX6_factorial_2 (by decide) ?_
    refine ro_istore_n2 dX6_factorial_3 (Nat.le_of_ble_eq_true rfl) rfl ?_
    refine ro_iload_n dX6_factorial_4 rfl rfl ?_
    refine ro_iload_n dX6_factorial_5 rfl rfl ?_
    refine ro_icmp_gt 19 dX6_factorial_6 (by decide) (fun b6 => ?_) (fun b6 => ?_)
    · exact absurd b6 (by decide)
    · refine ro_iload_n dX6_factorial_9 rfl rfl ?_
      refine ro_iload_n dX6_factorial_10 rfl rfl ?_
      refine ro_imul dX6_factorial_11 ?_
      refine ro_istore_n1 dX6_factorial_12 (Nat.le_of_ble_eq_true rfl) rfl ?_
      refine ro_iincP2 dX6_factorial_13 (Nat.le_of_ble_eq_true rfl) rfl ?_
      refine ro_goto 4 dX6_factorial_16 (by decide) ?_
      refine ro_iload_n dX6_factorial_4 rfl rfl ?_
      refine ro_iload_n dX6_factorial_5 rfl rfl ?_
      refine ro_icmp_gt 19 dX6_factorial_6 (by decide) (fun b6 => ?_) (fun b6 => ?_)
      · exact absurd b6 (by decide)
      · refine ro_iload_n dX6_factorial_9 rfl rfl ?_
        refine ro_iload_n dX6_factorial_10 rfl rfl ?_
        refine ro_imul dX6_factorial_11 ?_
        refine ro_istore_n1 dX6_factorial_12 (Nat.le_of_ble_eq_true rfl) rfl ?_
        refine ro_iincP2 dX6_factorial_13 (Nat.le_of_ble_eq_true rfl) rfl ?_
        refine ro_goto 4 dX6_factorial_16 (by decide) ?_
        refine ro_iload_n dX6_factorial_4 rfl rfl ?_
        refine ro_iload_n dX6_factorial_5 rfl rfl ?_
        refine ro_icmp_gt 19 dX6_factorial_6 (by decide) (fun b6 => ?_) (fun b6 => ?_)
        · exact absurd b6 (by decide)
        · refine ro_iload_n dX6_factorial_9 rfl rfl ?_
          refine ro_iload_n dX6_factorial_10 rfl rfl ?_
          refine ro_imul dX6_factorial_11 ?_
          refine ro_istore_n1 dX6_factorial_12 (Nat.le_of_ble_eq_true rfl) rfl ?_
          refine ro_iincP2 dX6_factorial_13 (Nat.le_of_ble_eq_true rfl) rfl ?_
          refine ro_goto 4 dX6_factorial_16 (by decide) ?_
          refine ro_iload_n dX6_factorial_4 rfl rfl ?_
          refine ro_iload_n dX6_factorial_5 rfl rfl ?_
          refine ro_icmp_gt 19 dX6_factorial_6 (by decide) (fun b6 => ?_) (fun b6 => ?_)
          · exact absurd b6 (by decide)
          · refine ro_iload_n dX6_factorial_9 rfl rfl ?_
            refine ro_iload_n dX6_factorial_10 rfl rfl ?_
            refine ro_imul dX6_factorial_11 ?_
            refine ro_istore_n1 dX6_factorial_12 (Nat.le_of_ble_eq_true rfl) rfl ?_
            refine ro_iincP2 dX6_factorial_13 (Nat.le_of_ble_eq_true rfl) rfl ?_
            refine ro_goto 4 dX6_factorial_16 (by decide) ?_
            refine ro_iload_n dX6_factorial_4 rfl rfl ?_
            refine ro_iload_n dX6_factorial_5 rfl rfl ?_
            refine ro_icmp_gt 19 dX6_factorial_6 (by decide) (fun b6 => ?_) (fun b6 => ?_)
            · refine ro_iload_n dX6_factorial_19 rfl rfl ?_
              refine ro_iret rfl dX6_factorial_20 ?_
              exact ⟨rfl, rfl, rfl⟩
            · exact absurd b6 (by decide)
theorem lr_common {g : GT} {M : MM} {L : LL} {a0 b0 : Int32} : ∀ (m x y : Nat) (x4 : Option Value), y < m → x < 2 ^ 31 → y < 2 ^ 31 → JW g mX6_common 0 (Rt (some (.int (nI (Nat.gcd x y)))) M L) M L 13 [some (.int a0), some (.int b0), some (.int (nI x)), some (.int (nI y)), x4] [] := by
  intro m
  induction m with
  | zero => intro x y x4 h; exact absurd h (Nat.not_lt_zero y)
  | succ m ih =>
    intro x y x4 hm hx hy
    refine ro_iload_n dX6_common_13 rfl rfl ?_
    refine ro_if_eq 30 dX6_common_14 (by decide) (fun b14 => ?_) (fun b14 => ?_)
    · replace b14 : y = 0 := (nI_eq (b := 0) (by omega) (by decide)).mp b14
      refine ro_iload_n dX6_common_30 rfl rfl ?_
      refine ro_iret rfl dX6_common_31 ?_
      exact ⟨by rw [b14, Nat.gcd_zero_right], rfl, rfl⟩
    · replace b14 : ¬ y = 0 := fun z => b14 (by rw [z]; rfl)
      refine ro_iload_n dX6_common_17 rfl rfl ?_
      refine ro_iload_n dX6_common_18 rfl rfl ?_
      refine ro_irem dX6_common_19 (nI_ne0 (by omega) (by omega)) ?_
      refine ro_top (show _ = nI (x % y) from pk_rem (by omega) (by omega) (by omega)) ?_
      refine ro_istore4 dX6_common_20 (Nat.le_of_ble_eq_true rfl) rfl ?_
      refine ro_iload_n dX6_common_22 rfl rfl ?_
      refine ro_istore_n2 dX6_common_23 (Nat.le_of_ble_eq_true rfl) rfl ?_
      refine ro_iload dX6_common_24 rfl ?_
      refine ro_istore_n3 dX6_common_26 (Nat.le_of_ble_eq_true rfl) rfl ?_
      refine ro_goto 13 dX6_common_27 (by decide) ?_
      have hlt := Nat.mod_lt x (show 0 < y by omega)
      rw [← gcd_step]
      exact ih y (x % y) _ (by omega) (by omega) (by omega)
theorem cr_common {g : GT} {M : MM} {L : LL} {x y : Nat} (hx : x < 2 ^ 31) (hy : y < 2 ^ 31) : CT g mX6_common 0 [.int (nI x), .int (nI y)] M L (some (.int (nI (Nat.gcd x y)))) M L := by
  refine ct_of ok_X6_common (lv := [some (.int (nI x)), some (.int (nI y)), none, none, none]) rfl (Nat.le_of_ble_eq_true rfl) ?_
  refine ro_iload_n dX6_common_0 rfl rfl ?_
  refine ro_if_ge 9 dX6_common_1 (by decide) (fun b1 => ?_) (fun b1 => ?_)
  · refine ro_iload_n dX6_common_9 rfl rfl ?_
    refine ro_istore_n2 dX6_common_10 (Nat.le_of_ble_eq_true rfl) rfl ?_
    refine ro_iload_n dX6_common_11 rfl rfl ?_
    refine ro_istore_n3 dX6_common_12 (Nat.le_of_ble_eq_true rfl) rfl ?_
    exact lr_common (y + 1) x y none (by omega) hx hy
  · exact absurd (Int32.not_le.mp b1) (nI_pos hx)
def gnC (l : LN) (c : SC) (k j a b : Nat) : SC := hrsC l 4 (lowIf (ln_n l) (lowIf (ln_n l) c k a) j b)
def gnV (l : LN) (c : SC) (k j a b : Nat) : Int := 6 - (pop (sc_kn (gnC l c k j a b) k) : Int) - (a : Nat)
theorem va_swap {α : Type} {f : Nat → α} {i j : Nat} {x y : α} (h : i ≠ j) : va_up (va_up f i x) j y = va_up (va_up f j y) i x := funext fun k => by
  unfold va_up
  split
  · next h1 => rw [if_neg (by omega)]
  · rfl
theorem low_vo {n : Nat} {c : SC} {k j a : Nat} (h : j ≠ k) : sc_vo (lowIf n c k a) j = sc_vo c j := by
  unfold lowIf
  split
  · exact va_up_ne _ _ h
  · rfl
theorem low_can {n : Nat} {c : SC} {k j a : Nat} (h : j ≠ k) : canL n (lowIf n c k a) j = canL n c j := by unfold canL; rw [low_vo h]
theorem low_comm {n : Nat} {c : SC} {k j a b : Nat} (h : k ≠ j) : lowIf n (lowIf n c k a) j b = lowIf n (lowIf n c j b) k a := by
  have e1 : lowIf n (lowIf n c k a) j b = if b = 1 ∧ canL n c j = true then lowC (lowIf n c k a) j else lowIf n c k a := by rw [lowIf, low_can (Ne.symm h)]
  have e2 : lowIf n (lowIf n c j b) k a = if a = 1 ∧ canL n c k = true then lowC (lowIf n c j b) k else lowIf n c j b := by rw [lowIf, low_can h]
  rw [e1, e2]
  by_cases h1 : b = 1 ∧ canL n c j = true
  · rw [if_pos h1]
    by_cases h2 : a = 1 ∧ canL n c k = true
    · rw [if_pos h2]
      unfold lowC
      rw [low_vo h, low_vo (Ne.symm h)]
      simp only [lowIf, if_pos h1, if_pos h2]
      show (_, _, va_up (va_up (sc_vo c) k (sc_vo c k - 1)) j (sc_vo c j - 1), _, _) = (_, _, va_up (va_up (sc_vo c) j (sc_vo c j - 1)) k (sc_vo c k - 1), _, _)
      rw [va_swap h]
      rfl
    · rw [if_neg h2]
      simp only [lowIf, if_pos h1, if_neg h2]
  · rw [if_neg h1]
    by_cases h2 : a = 1 ∧ canL n c k = true
    · rw [if_pos h2]
      simp only [lowIf, if_neg h1, if_pos h2]
    · rw [if_neg h2]
      simp only [lowIf, if_neg h1, if_neg h2]
theorem gn_O (l : LN) (c : SC) (k j p : Nat) : rsO l c k j p = gnV l c k j (p / 2) (p % 2) := rfl
theorem gn_T {l : LN} {c : SC} {k j : Nat} (h : k ≠ j) (p : Nat) : rsT l c k j p = gnV l c j k (p % 2) (p / 2) := by
  unfold rsT gnV gnC rsC
  rw [low_comm h]
theorem ScR.same {f f' : Nat → Int32} {b n : Nat} {c : SC} (h : ScR f b n c) (e : ∀ q, f' q = f q) : ScR f' b n c := h.cong (fun _ _ => e _)
theorem gn_77 {g : GT} {M : MM} {L : LL} {ln : LN} {b k j oa ob : Nat} {c : SC} (hk : k < ln_n ln) (hj : j < ln_n ln) (hkj : k ≠ j) (ha : oa < 2) (hob : ob < 2) (ok : LnOK ln) (oc : ScOK (ln_n ln) b c) (hb : b < 2 ^ 28) {M0 : MM} (hL : RLn M ln) (hS : ScR (M 107) (17 * 1) (ln_n ln) (lowIf (ln_n ln) (lowIf (ln_n ln) c k oa) j ob)) (ho : RScr M0 M) : JW g mX6_gain 4 (fun v M' L' => v = some (.int (oI (gnV ln c k j oa ob))) ∧ RScr M0 M' ∧ L' = L) M L 77 [some (.ref (dq_A g 102)), some (.int (nI k)), some (.int (nI j)), some (.int (nI oa)), some (.int (nI ob))] [] := by
  have a1 := ok.1
  refine ro_aload_n dX6_gain_77 rfl rfl ?_
  refine ro_iconst (v := 4) dX6_gain_78 (by decide) ?_
  refine ro_callV1Q ok_X6_goOn (cr_goOn (n := 4) hL ok hS (lowIf_ok (lowIf_ok oc)) (by omega)) ce_X6 rfl rfl gX6_gain_X6_goOn (Nat.le_of_ble_eq_true rfl) (Nat.le_of_ble_eq_true rfl) dX6_gain_79 (fun v79 M79 L79 q79 => ?_)
  obtain ⟨rfl, hS79, hq79, ho79, rfl⟩ := q79
  refine ro_bipush (v := 6) dX6_gain_82 (by decide) ?_
  refine ro_aload_n dX6_gain_84 rfl rfl ?_
  refine ro_iconst (v := 1) dX6_gain_85 (by decide) ?_
  refine ro_iload_n dX6_gain_86 rfl rfl ?_
  refine ro_callV2 ok_X6_knowsAt (cr_knowsAt (lv := 1) (by decide) hS79 (hrsC_ok ok (lowIf_ok (lowIf_ok oc)) 4).1 a1 hk) ce_X6 rfl rfl gX6_gain_X6_knowsAt (Nat.le_of_ble_eq_true rfl) (Nat.le_of_ble_eq_true rfl) dX6_gain_87 ?_
  refine ro_callS1 ok_X6_ones (cr_ones (by have := (hrsC_ok ok (lowIf_ok (h := j) (a := ob) (lowIf_ok (h := k) (a := oa) oc)) 4).2.2.1 k; omega)) gX6_gain_X6_ones (Nat.le_of_ble_eq_true rfl) (Nat.le_of_ble_eq_true rfl) dX6_gain_90 ?_
  refine ro_isub dX6_gain_93 ?_
  refine ro_iload_n dX6_gain_94 rfl rfl ?_
  refine ro_isub dX6_gain_95 ?_
  refine ro_iret rfl dX6_gain_96 ?_
  exact ⟨by rw [has_top]; rfl, ho.tr (RScr.lv1 ho79 hq79), rfl⟩
theorem gn_40 {g : GT} {M : MM} {L : LL} {ln : LN} {b k j oa ob : Nat} {c : SC} (hk : k < ln_n ln) (hj : j < ln_n ln) (hkj : k ≠ j) (ha : oa < 2) (hob : ob < 2) (ok : LnOK ln) (oc : ScOK (ln_n ln) b c) (hb : b < 2 ^ 28) {M0 : MM} (hL : RLn M ln) (hS : ScR (M 107) (17 * 1) (ln_n ln) (lowIf (ln_n ln) c k oa)) (h0 : ∀ i, i < 5 → M 107 (10 + i) = oI (sc_vo c i)) (ho : RScr M0 M) : JW g mX6_gain 4 (fun v M' L' => v = some (.int (oI (gnV ln c k j oa ob))) ∧ RScr M0 M' ∧ L' = L) M L 40 [some (.ref (dq_A g 102)), some (.int (nI k)), some (.int (nI j)), some (.int (nI oa)), some (.int (nI ob))] [] := by
  have a1 := ok.1
  have hvv : sc_vo (lowIf (ln_n ln) c k oa) j = sc_vo c j := low_vo (Ne.symm hkj)
  have hvj : M 107 (27 + j) = oI (sc_vo (lowIf (ln_n ln) c k oa) j) := hS.2.2.1 j (by omega)
  have hv := oc.2.2.2.1 j
  refine ro_aload_n dX6_gain_40 rfl rfl ?_
  refine gf_X6_now  in_X6_gain_X6 lk_X6_gain_22 dX6_gain_41 ?_
  refine ro_bipush (v := 27) dX6_gain_44 (by decide) ?_
  refine ro_iload_n dX6_gain_46 rfl rfl ?_
  refine ro_iadd dX6_gain_47 ?_
  refine ro_top (show _ = nI (27 + j) from nI_add (27) (j)) ?_
  refine ro_dup2 dX6_gain_48 rfl rfl ?_
  refine ro_ai ar_107 rfl (by omega) dX6_gain_49 ?_
  rw [hvj]
  refine ro_iload dX6_gain_50 rfl ?_
  refine ro_iconst (v := 1) dX6_gain_52 (by decide) ?_
  refine ro_icmp_ne 74 dX6_gain_53 (by decide) (fun b53 => ?_) (fun b53 => ?_)
  · replace b53 : ¬ ob = 1 := fun z => b53 (by rw [z]; rfl)
    refine ro_iconst (v := 0) dX6_gain_74 (by decide) ?_
    refine ro_isub dX6_gain_75 ?_
    refine ro_as ar_107 rfl (by omega) dX6_gain_76 (fun M76 e76 => ?_)
    have hst : ScR (M76 107) (17 * 1) (ln_n ln) (lowIf (ln_n ln) (lowIf (ln_n ln) c k oa) j ob) := by
      first
        | (rw [show lowIf (ln_n ln) (lowIf (ln_n ln) c k oa) j ob = (lowIf (ln_n ln) c k oa) from if_neg (fun z => b53 z.1)]
           refine hS.same (fun q => ?_)
           rw [e76, va_up_self]
           by_cases e : q = 27 + j
           · subst e; rw [pk_us, hvj]; exact Int32.sub_zero _
           · rw [pk_un e])
        | (rw [show lowIf (ln_n ln) (lowIf (ln_n ln) c k oa) j ob = (lowIf (ln_n ln) c k oa) from if_neg (fun z => by have z2 := z.2; unfold canL at z2; rw [Bool.and_eq_true, decide_eq_true_eq, decide_eq_true_eq] at z2; rw [hvv] at z2; omega)]
           refine hS.same (fun q => ?_)
           rw [e76, va_up_self]
           by_cases e : q = 27 + j
           · subst e; rw [pk_us, hvj]; exact Int32.sub_zero _
           · rw [pk_un e])
        | (rw [show lowIf (ln_n ln) (lowIf (ln_n ln) c k oa) j ob = lowC (lowIf (ln_n ln) c k oa) j from if_pos ⟨b53, by unfold canL; rw [hvv, decide_eq_true (by omega), decide_eq_true (by omega)]; rfl⟩ , e76, va_up_self, show (1 : Int32) = oI 1 from rfl, oI_sub]
           exact hS.vo (z := sc_vo (lowIf (ln_n ln) c k oa) j - 1) (by omega))
    have hxt : RScr M M76 := RScr.lv1 (OnlyB.up e76 (by decide) (by decide)) (fun q hq => by rw [e76, va_up_self, pk_un (by omega)])
    exact gn_77 hk hj hkj ha hob ok oc hb (hL.k7 (OnlyB.up e76 (by decide) (by decide))) hst (ho.tr hxt)
  · replace b53 : ob = 1 := (nI_eq (b := 1) (by omega) (by decide)).mp b53
    refine ro_aload_n dX6_gain_56 rfl rfl ?_
    refine gf_X6_now  in_X6_gain_X6 lk_X6_gain_22 dX6_gain_57 ?_
    refine ro_bipush (v := 10) dX6_gain_60 (by decide) ?_
    refine ro_iload_n dX6_gain_62 rfl rfl ?_
    refine ro_iadd dX6_gain_63 ?_
    refine ro_top (show _ = nI (10 + j) from nI_add (10) (j)) ?_
    refine ro_ai ar_107 rfl (by omega) dX6_gain_64 ?_
    rw [show M 107 (10 + j) = oI (sc_vo c j) from h0 j (by omega)]
    refine ro_bipush (v := -3) dX6_gain_65 (by decide) ?_
    refine ro_icmp_le 74 dX6_gain_67 (by decide) (fun b67 => ?_) (fun b67 => ?_)
    · rw [show (-3 : Int32) = oI (-3) from rfl, oI_le (by omega) (by omega) (by omega) (by omega)] at b67
      refine ro_iconst (v := 0) dX6_gain_74 (by decide) ?_
      refine ro_isub dX6_gain_75 ?_
      refine ro_as ar_107 rfl (by omega) dX6_gain_76 (fun M76 e76 => ?_)
      have hst : ScR (M76 107) (17 * 1) (ln_n ln) (lowIf (ln_n ln) (lowIf (ln_n ln) c k oa) j ob) := by
        first
          | (rw [show lowIf (ln_n ln) (lowIf (ln_n ln) c k oa) j ob = (lowIf (ln_n ln) c k oa) from if_neg (fun z => b53 z.1)]
             refine hS.same (fun q => ?_)
             rw [e76, va_up_self]
             by_cases e : q = 27 + j
             · subst e; rw [pk_us, hvj]; exact Int32.sub_zero _
             · rw [pk_un e])
          | (rw [show lowIf (ln_n ln) (lowIf (ln_n ln) c k oa) j ob = (lowIf (ln_n ln) c k oa) from if_neg (fun z => by have z2 := z.2; unfold canL at z2; rw [Bool.and_eq_true, decide_eq_true_eq, decide_eq_true_eq] at z2; rw [hvv] at z2; omega)]
             refine hS.same (fun q => ?_)
             rw [e76, va_up_self]
             by_cases e : q = 27 + j
             · subst e; rw [pk_us, hvj]; exact Int32.sub_zero _
             · rw [pk_un e])
          | (rw [show lowIf (ln_n ln) (lowIf (ln_n ln) c k oa) j ob = lowC (lowIf (ln_n ln) c k oa) j from if_pos ⟨b53, by unfold canL; rw [hvv, decide_eq_true (by omega), decide_eq_true (by omega)]; rfl⟩ , e76, va_up_self, show (1 : Int32) = oI 1 from rfl, oI_sub]
             exact hS.vo (z := sc_vo (lowIf (ln_n ln) c k oa) j - 1) (by omega))
      have hxt : RScr M M76 := RScr.lv1 (OnlyB.up e76 (by decide) (by decide)) (fun q hq => by rw [e76, va_up_self, pk_un (by omega)])
      exact gn_77 hk hj hkj ha hob ok oc hb (hL.k7 (OnlyB.up e76 (by decide) (by decide))) hst (ho.tr hxt)
    · rw [show (-3 : Int32) = oI (-3) from rfl, oI_le (by omega) (by omega) (by omega) (by omega)] at b67
      refine ro_iconst (v := 1) dX6_gain_70 (by decide) ?_
      refine ro_goto 75 dX6_gain_71 (by decide) ?_
      refine ro_isub dX6_gain_75 ?_
      refine ro_as ar_107 rfl (by omega) dX6_gain_76 (fun M76 e76 => ?_)
      have hst : ScR (M76 107) (17 * 1) (ln_n ln) (lowIf (ln_n ln) (lowIf (ln_n ln) c k oa) j ob) := by
        first
          | (rw [show lowIf (ln_n ln) (lowIf (ln_n ln) c k oa) j ob = (lowIf (ln_n ln) c k oa) from if_neg (fun z => b53 z.1)]
             refine hS.same (fun q => ?_)
             rw [e76, va_up_self]
             by_cases e : q = 27 + j
             · subst e; rw [pk_us, hvj]; exact Int32.sub_zero _
             · rw [pk_un e])
          | (rw [show lowIf (ln_n ln) (lowIf (ln_n ln) c k oa) j ob = (lowIf (ln_n ln) c k oa) from if_neg (fun z => by have z2 := z.2; unfold canL at z2; rw [Bool.and_eq_true, decide_eq_true_eq, decide_eq_true_eq] at z2; rw [hvv] at z2; omega)]
             refine hS.same (fun q => ?_)
             rw [e76, va_up_self]
             by_cases e : q = 27 + j
             · subst e; rw [pk_us, hvj]; exact Int32.sub_zero _
             · rw [pk_un e])
          | (rw [show lowIf (ln_n ln) (lowIf (ln_n ln) c k oa) j ob = lowC (lowIf (ln_n ln) c k oa) j from if_pos ⟨b53, by unfold canL; rw [hvv, decide_eq_true (by omega), decide_eq_true (by omega)]; rfl⟩ , e76, va_up_self, show (1 : Int32) = oI 1 from rfl, oI_sub]
             exact hS.vo (z := sc_vo (lowIf (ln_n ln) c k oa) j - 1) (by omega))
      have hxt : RScr M M76 := RScr.lv1 (OnlyB.up e76 (by decide) (by decide)) (fun q hq => by rw [e76, va_up_self, pk_un (by omega)])
      exact gn_77 hk hj hkj ha hob ok oc hb (hL.k7 (OnlyB.up e76 (by decide) (by decide))) hst (ho.tr hxt)
theorem cr_gain {g : GT} {M : MM} {L : LL} {ln : LN} {b k j oa ob : Nat} {c : SC} (hk : k < ln_n ln) (hj : j < ln_n ln) (hkj : k ≠ j) (ha : oa < 2) (hob : ob < 2) (ok : LnOK ln) (oc : ScOK (ln_n ln) b c) (hb : b < 2 ^ 28) (hL : RLn M ln) (hS : ScR (M 107) (17 * 0) (ln_n ln) c) : CTQ g mX6_gain 4 [.ref (dq_A g 102), .int (nI k), .int (nI j), .int (nI oa), .int (nI ob)] M L (fun v M' L' => v = some (.int (oI (gnV ln c k j oa ob))) ∧ RScr M M' ∧ L' = L) := by
  have a1 := ok.1
  refine ct_of ok_X6_gain (lv := [some (.ref (dq_A g 102)), some (.int (nI k)), some (.int (nI j)), some (.int (nI oa)), some (.int (nI ob))]) rfl (Nat.le_of_ble_eq_true rfl) ?_
  refine ro_aload_n dX6_gain_0 rfl rfl ?_
  refine ro_callV0Q ok_X6_layTrial (cr_lay0) ce_X6 rfl rfl gX6_gain_X6_layTrial (Nat.le_of_ble_eq_true rfl) (Nat.le_of_ble_eq_true rfl) dX6_gain_1 (fun v1 M1 L1 q1 => ?_)
  obtain ⟨rfl, hr1, hq1, ho1, rfl⟩ := q1
  have hS1 : ScR (M1 107) (17 * 1) (ln_n ln) c := hS.cong (fun k hk => by rw [show 17 * 1 + k = 17 + k from rfl, hr1 k hk, show 17 * 0 + k = k by omega])
  have h0 : ∀ i, i < 5 → M1 107 (10 + i) = oI (sc_vo c i) := fun i hi => by rw [hq1 (10 + i) (by omega)]; exact (show M 107 (10 + i) = oI (sc_vo c i) from by have z := hS.2.2.1 i hi; rwa [show 17 * 0 + 10 + i = 10 + i by omega] at z)
  have hL1 := hL.k7 ho1
  have hx1 : RScr M M1 := RScr.lv1 ho1 (fun q z => hq1 q (by omega))
  have hvv : sc_vo c k = sc_vo c k := rfl
  have hvj : M1 107 (27 + k) = oI (sc_vo c k) := hS1.2.2.1 k (by omega)
  have hv := oc.2.2.2.1 k
  refine ro_aload_n dX6_gain_4 rfl rfl ?_
  refine gf_X6_now  in_X6_gain_X6 lk_X6_gain_22 dX6_gain_5 ?_
  refine ro_bipush (v := 27) dX6_gain_8 (by decide) ?_
  refine ro_iload_n dX6_gain_10 rfl rfl ?_
  refine ro_iadd dX6_gain_11 ?_
  refine ro_top (show _ = nI (27 + k) from nI_add (27) (k)) ?_
  refine ro_dup2 dX6_gain_12 rfl rfl ?_
  refine ro_ai ar_107 rfl (by omega) dX6_gain_13 ?_
  rw [hvj]
  refine ro_iload_n dX6_gain_14 rfl rfl ?_
  refine ro_iconst (v := 1) dX6_gain_15 (by decide) ?_
  refine ro_icmp_ne 37 dX6_gain_16 (by decide) (fun b16 => ?_) (fun b16 => ?_)
  · replace b16 : ¬ oa = 1 := fun z => b16 (by rw [z]; rfl)
    refine ro_iconst (v := 0) dX6_gain_37 (by decide) ?_
    refine ro_isub dX6_gain_38 ?_
    refine ro_as ar_107 rfl (by omega) dX6_gain_39 (fun M39 e39 => ?_)
    have hst : ScR (M39 107) (17 * 1) (ln_n ln) (lowIf (ln_n ln) c k oa) := by
      first
        | (rw [show lowIf (ln_n ln) c k oa = c from if_neg (fun z => b16 z.1)]
           refine hS1.same (fun q => ?_)
           rw [e39, va_up_self]
           by_cases e : q = 27 + k
           · subst e; rw [pk_us, hvj]; exact Int32.sub_zero _
           · rw [pk_un e])
        | (rw [show lowIf (ln_n ln) c k oa = c from if_neg (fun z => by have z2 := z.2; unfold canL at z2; rw [Bool.and_eq_true, decide_eq_true_eq, decide_eq_true_eq] at z2; rw [hvv] at z2; omega)]
           refine hS1.same (fun q => ?_)
           rw [e39, va_up_self]
           by_cases e : q = 27 + k
           · subst e; rw [pk_us, hvj]; exact Int32.sub_zero _
           · rw [pk_un e])
        | (rw [show lowIf (ln_n ln) c k oa = lowC c k from if_pos ⟨b16, by unfold canL; rw [hvv, decide_eq_true (by omega), decide_eq_true (by omega)]; rfl⟩ , e39, va_up_self, show (1 : Int32) = oI 1 from rfl, oI_sub]
           exact hS1.vo (z := sc_vo c k - 1) (by omega))
    have hxt : RScr M1 M39 := RScr.lv1 (OnlyB.up e39 (by decide) (by decide)) (fun q hq => by rw [e39, va_up_self, pk_un (by omega)])
    exact gn_40 hk hj hkj ha hob ok oc hb (hL1.k7 (OnlyB.up e39 (by decide) (by decide))) hst (fun i hi => by rw [e39, va_up_self, pk_un (by omega)]; exact h0 i hi) (hx1.tr hxt)
  · replace b16 : oa = 1 := (nI_eq (b := 1) (by omega) (by decide)).mp b16
    refine ro_aload_n dX6_gain_19 rfl rfl ?_
    refine gf_X6_now  in_X6_gain_X6 lk_X6_gain_22 dX6_gain_20 ?_
    refine ro_bipush (v := 10) dX6_gain_23 (by decide) ?_
    refine ro_iload_n dX6_gain_25 rfl rfl ?_
    refine ro_iadd dX6_gain_26 ?_
    refine ro_top (show _ = nI (10 + k) from nI_add (10) (k)) ?_
    refine ro_ai ar_107 rfl (by omega) dX6_gain_27 ?_
    rw [show M1 107 (10 + k) = oI (sc_vo c k) from h0 k (by omega)]
    refine ro_bipush (v := -3) dX6_gain_28 (by decide) ?_
    refine ro_icmp_le 37 dX6_gain_30 (by decide) (fun b30 => ?_) (fun b30 => ?_)
    · rw [show (-3 : Int32) = oI (-3) from rfl, oI_le (by omega) (by omega) (by omega) (by omega)] at b30
      refine ro_iconst (v := 0) dX6_gain_37 (by decide) ?_
      refine ro_isub dX6_gain_38 ?_
      refine ro_as ar_107 rfl (by omega) dX6_gain_39 (fun M39 e39 => ?_)
      have hst : ScR (M39 107) (17 * 1) (ln_n ln) (lowIf (ln_n ln) c k oa) := by
        first
          | (rw [show lowIf (ln_n ln) c k oa = c from if_neg (fun z => b16 z.1)]
             refine hS1.same (fun q => ?_)
             rw [e39, va_up_self]
             by_cases e : q = 27 + k
             · subst e; rw [pk_us, hvj]; exact Int32.sub_zero _
             · rw [pk_un e])
          | (rw [show lowIf (ln_n ln) c k oa = c from if_neg (fun z => by have z2 := z.2; unfold canL at z2; rw [Bool.and_eq_true, decide_eq_true_eq, decide_eq_true_eq] at z2; rw [hvv] at z2; omega)]
             refine hS1.same (fun q => ?_)
             rw [e39, va_up_self]
             by_cases e : q = 27 + k
             · subst e; rw [pk_us, hvj]; exact Int32.sub_zero _
             · rw [pk_un e])
          | (rw [show lowIf (ln_n ln) c k oa = lowC c k from if_pos ⟨b16, by unfold canL; rw [hvv, decide_eq_true (by omega), decide_eq_true (by omega)]; rfl⟩ , e39, va_up_self, show (1 : Int32) = oI 1 from rfl, oI_sub]
             exact hS1.vo (z := sc_vo c k - 1) (by omega))
      have hxt : RScr M1 M39 := RScr.lv1 (OnlyB.up e39 (by decide) (by decide)) (fun q hq => by rw [e39, va_up_self, pk_un (by omega)])
      exact gn_40 hk hj hkj ha hob ok oc hb (hL1.k7 (OnlyB.up e39 (by decide) (by decide))) hst (fun i hi => by rw [e39, va_up_self, pk_un (by omega)]; exact h0 i hi) (hx1.tr hxt)
    · rw [show (-3 : Int32) = oI (-3) from rfl, oI_le (by omega) (by omega) (by omega) (by omega)] at b30
      refine ro_iconst (v := 1) dX6_gain_33 (by decide) ?_
      refine ro_goto 38 dX6_gain_34 (by decide) ?_
      refine ro_isub dX6_gain_38 ?_
      refine ro_as ar_107 rfl (by omega) dX6_gain_39 (fun M39 e39 => ?_)
      have hst : ScR (M39 107) (17 * 1) (ln_n ln) (lowIf (ln_n ln) c k oa) := by
        first
          | (rw [show lowIf (ln_n ln) c k oa = c from if_neg (fun z => b16 z.1)]
             refine hS1.same (fun q => ?_)
             rw [e39, va_up_self]
             by_cases e : q = 27 + k
             · subst e; rw [pk_us, hvj]; exact Int32.sub_zero _
             · rw [pk_un e])
          | (rw [show lowIf (ln_n ln) c k oa = c from if_neg (fun z => by have z2 := z.2; unfold canL at z2; rw [Bool.and_eq_true, decide_eq_true_eq, decide_eq_true_eq] at z2; rw [hvv] at z2; omega)]
             refine hS1.same (fun q => ?_)
             rw [e39, va_up_self]
             by_cases e : q = 27 + k
             · subst e; rw [pk_us, hvj]; exact Int32.sub_zero _
             · rw [pk_un e])
          | (rw [show lowIf (ln_n ln) c k oa = lowC c k from if_pos ⟨b16, by unfold canL; rw [hvv, decide_eq_true (by omega), decide_eq_true (by omega)]; rfl⟩ , e39, va_up_self, show (1 : Int32) = oI 1 from rfl, oI_sub]
             exact hS1.vo (z := sc_vo c k - 1) (by omega))
      have hxt : RScr M1 M39 := RScr.lv1 (OnlyB.up e39 (by decide) (by decide)) (fun q hq => by rw [e39, va_up_self, pk_un (by omega)])
      exact gn_40 hk hj hkj ha hob ok oc hb (hL1.k7 (OnlyB.up e39 (by decide) (by decide))) hst (fun i hi => by rw [e39, va_up_self, pk_un (by omega)]; exact h0 i hi) (hx1.tr hxt)
theorem RScr.lane {M M' : MM} {l : LN} (h : RLn M l) (hk : RScr M M') : RLn M' l := h.keep (fun k z => hk.2.1 k (by omega) (by omega) (by omega) (by omega) (by omega)) (fun i a b => hk.1 i (by omega) (by omega) (by omega) (by omega) (by omega))
theorem RScr.sc0 {M M' : MM} {n : Nat} {c : SC} (h : ScR (M 107) (17 * 0) n c) (hk : RScr M M') : ScR (M' 107) (17 * 0) n c := h.cong (fun k hk2 => by rw [show 17 * 0 + k = k by omega]; exact hk.2.2 k hk2)
theorem gnV_b (l : LN) (c : SC) (k j : Nat) {a b : Nat} (ha : a < 2) : -4 ≤ gnV l c k j a b ∧ gnV l c k j a b ≤ 6 := by
  unfold gnV
  have := pop_lt (sc_kn (gnC l c k j a b) k)
  omega
theorem xr_h : ∀ p : Nat, p < 4 → (p ^^^ 2) / 2 = 1 - p / 2 ∧ (p ^^^ 2) % 2 = p % 2 ∧ (p ^^^ 1) % 2 = 1 - p % 2 ∧ (p ^^^ 1) / 2 = p / 2 := by decide +kernel
theorem cr_isRest {g : GT} {M : MM} {L : LL} {ln : LN} {b k j p : Nat} {c : SC} (hk : k < ln_n ln) (hj : j < ln_n ln) (hkj : k ≠ j) (hp : p < 4) (ok : LnOK ln) (oc : ScOK (ln_n ln) b c) (hb : b < 2 ^ 28) (hL : RLn M ln) (hS : ScR (M 107) (17 * 0) (ln_n ln) c) : CTQ g mX6_isRest 5 [.ref (dq_A g 102), .int (nI k), .int (nI j), .int (nI (p / 2)), .int (nI (p % 2))] M L (fun v M' L' => v = some (.int (bI (rsP ln c k j p))) ∧ RScr M M' ∧ L' = L) := by
  have hp2 := xr_h p hp
  have g1 := gnV_b ln c k j (a := 1 - p / 2) (b := p % 2) (by omega)
  have g2 := gnV_b ln c k j (a := p / 2) (b := p % 2) (by omega)
  have g3 := gnV_b ln c j k (a := 1 - p % 2) (b := p / 2) (by omega)
  have g4 := gnV_b ln c j k (a := p % 2) (b := p / 2) (by omega)
  refine ct_of ok_X6_isRest (lv := [some (.ref (dq_A g 102)), some (.int (nI k)), some (.int (nI j)), some (.int (nI (p / 2))), some (.int (nI (p % 2)))]) rfl (Nat.le_of_ble_eq_true rfl) ?_
  refine ro_aload_n dX6_isRest_0 rfl rfl ?_
  refine ro_iload_n dX6_isRest_1 rfl rfl ?_
  refine ro_iload_n dX6_isRest_2 rfl rfl ?_
  refine ro_iconst (v := 1) dX6_isRest_3 (by decide) ?_
  refine ro_iload_n dX6_isRest_4 rfl rfl ?_
  refine ro_isub dX6_isRest_5 ?_
  refine ro_top (show _ = nI (1 - p / 2) from pk_sub (a := 1) (by omega)) ?_
  refine ro_iload dX6_isRest_6 rfl ?_
  refine ro_callV4Q ok_X6_gain (cr_gain hk hj hkj (oa := 1 - p / 2) (ob := p % 2) (by omega) (by omega) ok oc hb hL hS) ce_X6 rfl rfl gX6_isRest_X6_gain (Nat.le_of_ble_eq_true rfl) (Nat.le_of_ble_eq_true rfl) dX6_isRest_8 (fun v8 M8 L8 q8 => ?_)
  obtain ⟨rfl, hx8, rfl⟩ := q8
  have hy8 : RScr M M8 := hx8
  have hL8 := RScr.lane hL hy8
  have hS8 := RScr.sc0 hS hy8
  refine ro_aload_n dX6_isRest_11 rfl rfl ?_
  refine ro_iload_n dX6_isRest_12 rfl rfl ?_
  refine ro_iload_n dX6_isRest_13 rfl rfl ?_
  refine ro_iload_n dX6_isRest_14 rfl rfl ?_
  refine ro_iload dX6_isRest_15 rfl ?_
  refine ro_callV4Q ok_X6_gain (cr_gain hk hj hkj (oa := p / 2) (ob := p % 2) (by omega) (by omega) ok oc hb hL8 hS8) ce_X6 rfl rfl gX6_isRest_X6_gain (Nat.le_of_ble_eq_true rfl) (Nat.le_of_ble_eq_true rfl) dX6_isRest_17 (fun v17 M17 L17 q17 => ?_)
  obtain ⟨rfl, hx17, rfl⟩ := q17
  have hy17 : RScr M M17 := hy8.tr hx17
  have hL17 := RScr.lane hL hy17
  have hS17 := RScr.sc0 hS hy17
  refine ro_icmp_gt 50 dX6_isRest_20 (by decide) (fun b20 => ?_) (fun b20 => ?_)
  · rw [oI_lt (by omega) (by omega) (by omega) (by omega)] at b20
    refine ro_iconst (v := 0) dX6_isRest_50 (by decide) ?_
    refine ro_zret rfl rfl dX6_isRest_51 ?_
    refine ⟨?_, by first | exact hy40 | exact hy17, rfl⟩
    rw [rsP, gn_O, gn_O, gn_T hkj, gn_T hkj, hp2.1, hp2.2.1, hp2.2.2.1, hp2.2.2.2]
    first
      | (rw [decide_eq_true ⟨by omega, by omega⟩]; rfl)
      | (rw [decide_eq_false (by omega)]; rfl)
  · rw [oI_lt (by omega) (by omega) (by omega) (by omega)] at b20
    refine ro_aload_n dX6_isRest_23 rfl rfl ?_
    refine ro_iload_n dX6_isRest_24 rfl rfl ?_
    refine ro_iload_n dX6_isRest_25 rfl rfl ?_
    refine ro_iconst (v := 1) dX6_isRest_26 (by decide) ?_
    refine ro_iload dX6_isRest_27 rfl ?_
    refine ro_isub dX6_isRest_29 ?_
    refine ro_top (show _ = nI (1 - p % 2) from pk_sub (a := 1) (by omega)) ?_
    refine ro_iload_n dX6_isRest_30 rfl rfl ?_
    refine ro_callV4Q ok_X6_gain (cr_gain hj hk (Ne.symm hkj) (oa := 1 - p % 2) (ob := p / 2) (by omega) (by omega) ok oc hb hL17 hS17) ce_X6 rfl rfl gX6_isRest_X6_gain (Nat.le_of_ble_eq_true rfl) (Nat.le_of_ble_eq_true rfl) dX6_isRest_31 (fun v31 M31 L31 q31 => ?_)
    obtain ⟨rfl, hx31, rfl⟩ := q31
    have hy31 : RScr M M31 := hy17.tr hx31
    have hL31 := RScr.lane hL hy31
    have hS31 := RScr.sc0 hS hy31
    refine ro_aload_n dX6_isRest_34 rfl rfl ?_
    refine ro_iload_n dX6_isRest_35 rfl rfl ?_
    refine ro_iload_n dX6_isRest_36 rfl rfl ?_
    refine ro_iload dX6_isRest_37 rfl ?_
    refine ro_iload_n dX6_isRest_39 rfl rfl ?_
    refine ro_callV4Q ok_X6_gain (cr_gain hj hk (Ne.symm hkj) (oa := p % 2) (ob := p / 2) (by omega) (by omega) ok oc hb hL31 hS31) ce_X6 rfl rfl gX6_isRest_X6_gain (Nat.le_of_ble_eq_true rfl) (Nat.le_of_ble_eq_true rfl) dX6_isRest_40 (fun v40 M40 L40 q40 => ?_)
    obtain ⟨rfl, hx40, rfl⟩ := q40
    have hy40 : RScr M M40 := hy31.tr hx40
    have hL40 := RScr.lane hL hy40
    have hS40 := RScr.sc0 hS hy40
    refine ro_icmp_gt 50 dX6_isRest_43 (by decide) (fun b43 => ?_) (fun b43 => ?_)
    · rw [oI_lt (by omega) (by omega) (by omega) (by omega)] at b43
      refine ro_iconst (v := 0) dX6_isRest_50 (by decide) ?_
      refine ro_zret rfl rfl dX6_isRest_51 ?_
      refine ⟨?_, by first | exact hy40 | exact hy17, rfl⟩
      rw [rsP, gn_O, gn_O, gn_T hkj, gn_T hkj, hp2.1, hp2.2.1, hp2.2.2.1, hp2.2.2.2]
      first
        | (rw [decide_eq_true ⟨by omega, by omega⟩]; rfl)
        | (rw [decide_eq_false (by omega)]; rfl)
    · rw [oI_lt (by omega) (by omega) (by omega) (by omega)] at b43
      refine ro_iconst (v := 1) dX6_isRest_46 (by decide) ?_
      refine ro_goto 51 dX6_isRest_47 (by decide) ?_
      refine ro_zret rfl rfl dX6_isRest_51 ?_
      refine ⟨?_, by first | exact hy40 | exact hy17, rfl⟩
      rw [rsP, gn_O, gn_O, gn_T hkj, gn_T hkj, hp2.1, hp2.2.1, hp2.2.2.1, hp2.2.2.2]
      first
        | (rw [decide_eq_true ⟨by omega, by omega⟩]; rfl)
        | (rw [decide_eq_false (by omega)]; rfl)
theorem lr_rests {g : GT} {L : LL} {ln : LN} {b k j : Nat} {c : SC} {w : Int32} {M0 : MM} (hk : k < ln_n ln) (hj : j < ln_n ln) (hkj : k ≠ j) (ok : LnOK ln) (oc : ScOK (ln_n ln) b c) (hb : b < 2 ^ 28) : ∀ (f i : Nat), i + f = 4 → ∀ M : MM, RLn M ln → ScR (M 107) (17 * 0) (ln_n ln) c → RScr M0 M → JW g mX6_rests 6 (fun v M' L' => v = some (.int (if w = 0 then nI (rsF (rsP ln c k j) 4).1 else (rsF (rsP ln c k j) 4).2)) ∧ RScr M0 M' ∧ L' = L) M L 46 [some (.ref (dq_A g 102)), some (.int (nI k)), some (.int (nI j)), some (.int w), some (.int (nI (rsF (rsP ln c k j) i).1)), some (.int (rsF (rsP ln c k j) i).2), some (.int (nI i))] [] := by
  have a1 := ok.1
  intro f
  induction f with
  | zero =>
    intro i hi M hL hS ho
    refine ro_iload dX6_rests_46 rfl ?_
    refine ro_iconst (v := 4) dX6_rests_48 (by decide) ?_
    refine ro_icmp_ge 102 dX6_rests_49 (by decide) (fun b49 => ?_) (fun b49 => ?_)
    · refine ro_iload_n dX6_rests_102 rfl rfl ?_
      refine ro_if_ne 111 dX6_rests_103 (by decide) (fun b103 => ?_) (fun b103 => ?_)
      · refine ro_iload dX6_rests_111 rfl ?_
        refine ro_iret rfl dX6_rests_113 ?_
        have e : i = 4 := by omega
        subst e
        refine ⟨?_, ho, rfl⟩
        first
          | (rw [if_pos b103]; done)
          | (rw [if_neg b103]; done)
      · refine ro_iload dX6_rests_106 rfl ?_
        refine ro_goto 113 dX6_rests_108 (by decide) ?_
        refine ro_iret rfl dX6_rests_113 ?_
        have e : i = 4 := by omega
        subst e
        refine ⟨?_, ho, rfl⟩
        first
          | (rw [if_pos b103]; done)
          | (rw [if_neg b103]; done)
    · exact absurd (nI_le (a := 4) (by omega) (by omega)) b49
  | succ f ih =>
    intro i hi M hL hS ho
    have hle := rsF_le (rsP ln c k j) i
    refine ro_iload dX6_rests_46 rfl ?_
    refine ro_iconst (v := 4) dX6_rests_48 (by decide) ?_
    refine ro_icmp_ge 102 dX6_rests_49 (by decide) (fun b49 => ?_) (fun b49 => ?_)
    · exact absurd b49 (nI_ge (b := 4) (by omega) (by decide))
    · refine ro_aload_n dX6_rests_52 rfl rfl ?_
      refine ro_iload_n dX6_rests_53 rfl rfl ?_
      refine ro_iload_n dX6_rests_54 rfl rfl ?_
      refine ro_iload dX6_rests_55 rfl ?_
      refine ro_iconst (v := 2) dX6_rests_57 (by decide) ?_
      refine ro_idiv dX6_rests_58 (by decide) ?_
      refine ro_top (show _ = nI (i / 2) from pk_div (d := 2) (by omega) (by decide) (by decide)) ?_
      refine ro_iload dX6_rests_59 rfl ?_
      refine ro_iconst (v := 2) dX6_rests_61 (by decide) ?_
      refine ro_irem dX6_rests_62 (by decide) ?_
      refine ro_top (show _ = nI (i % 2) from pk_rem (d := 2) (by omega) (by decide) (by decide)) ?_
      refine ro_callV4Q ok_X6_isRest (cr_isRest hk hj hkj (p := i) (by omega) ok oc hb hL hS) ce_X6 rfl rfl gX6_rests_X6_isRest (Nat.le_of_ble_eq_true rfl) (Nat.le_of_ble_eq_true rfl) dX6_rests_63 (fun v63 M63 L63 q63 => ?_)
      obtain ⟨rfl, hx63, rfl⟩ := q63
      have hL63 := RScr.lane hL hx63
      have hS63 := RScr.sc0 hS hx63
      refine ro_if_eq 96 dX6_rests_66 (by decide) (fun b66 => ?_) (fun b66 => ?_)
      · rw [bI_eq0] at b66
        refine ro_iincP6 dX6_rests_96 (Nat.le_of_ble_eq_true rfl) rfl ?_
        refine ro_goto 46 dX6_rests_99 (by decide) ?_
        simp only [nI_1]
        have z := ih (i + 1) (by omega) M63 hL63 hS63 (ho.tr hx63)
        first
          | (rw [show rsF (rsP ln c k j) (i + 1) = ((rsF (rsP ln c k j) i).1 + 1, nI (10 * (i / 2) + i % 2)) from (if_pos b66).trans (by rw [if_pos b71])] at z; exact z)
          | (rw [show rsF (rsP ln c k j) (i + 1) = ((rsF (rsP ln c k j) i).1 + 1, (rsF (rsP ln c k j) i).2) from (if_pos b66).trans (by rw [if_neg b71])] at z; exact z)
          | (rw [show rsF (rsP ln c k j) (i + 1) = rsF (rsP ln c k j) i from if_neg (by rw [b66]; decide)] at z; exact z)
      · rw [bI_ne0] at b66
        refine ro_iload dX6_rests_69 rfl ?_
        refine ro_if_ne 89 dX6_rests_71 (by decide) (fun b71 => ?_) (fun b71 => ?_)
        · replace b71 : ¬ (rsF (rsP ln c k j) i).1 = 0 := fun z => b71 (by rw [z]; rfl)
          refine ro_iload dX6_rests_89 rfl ?_
          refine ro_istore5 dX6_rests_91 (Nat.le_of_ble_eq_true rfl) rfl ?_
          refine ro_iincP4 dX6_rests_93 (Nat.le_of_ble_eq_true rfl) rfl ?_
          refine ro_iincP6 dX6_rests_96 (Nat.le_of_ble_eq_true rfl) rfl ?_
          refine ro_goto 46 dX6_rests_99 (by decide) ?_
          simp only [nI_1]
          have z := ih (i + 1) (by omega) M63 hL63 hS63 (ho.tr hx63)
          first
            | (rw [show rsF (rsP ln c k j) (i + 1) = ((rsF (rsP ln c k j) i).1 + 1, nI (10 * (i / 2) + i % 2)) from (if_pos b66).trans (by rw [if_pos b71])] at z; exact z)
            | (rw [show rsF (rsP ln c k j) (i + 1) = ((rsF (rsP ln c k j) i).1 + 1, (rsF (rsP ln c k j) i).2) from (if_pos b66).trans (by rw [if_neg b71])] at z; exact z)
            | (rw [show rsF (rsP ln c k j) (i + 1) = rsF (rsP ln c k j) i from if_neg (by rw [b66]; decide)] at z; exact z)
        · replace b71 : (rsF (rsP ln c k j) i).1 = 0 := (nI_eq (b := 0) (by omega) (by decide)).mp b71
          refine ro_bipush (v := 10) dX6_rests_74 (by decide) ?_
          refine ro_iload dX6_rests_76 rfl ?_
          refine ro_iconst (v := 2) dX6_rests_78 (by decide) ?_
          refine ro_idiv dX6_rests_79 (by decide) ?_
          refine ro_top (show _ = nI (i / 2) from pk_div (d := 2) (by omega) (by decide) (by decide)) ?_
          refine ro_imul dX6_rests_80 ?_
          refine ro_top (show _ = nI (10 * (i / 2)) from pk_mul 10 (i / 2)) ?_
          refine ro_iload dX6_rests_81 rfl ?_
          refine ro_iconst (v := 2) dX6_rests_83 (by decide) ?_
          refine ro_irem dX6_rests_84 (by decide) ?_
          refine ro_top (show _ = nI (i % 2) from pk_rem (d := 2) (by omega) (by decide) (by decide)) ?_
          refine ro_iadd dX6_rests_85 ?_
          refine ro_top (show _ = nI (10 * (i / 2) + i % 2) from nI_add _ _) ?_
          refine ro_goto 91 dX6_rests_86 (by decide) ?_
          refine ro_istore5 dX6_rests_91 (Nat.le_of_ble_eq_true rfl) rfl ?_
          refine ro_iincP4 dX6_rests_93 (Nat.le_of_ble_eq_true rfl) rfl ?_
          refine ro_iincP6 dX6_rests_96 (Nat.le_of_ble_eq_true rfl) rfl ?_
          refine ro_goto 46 dX6_rests_99 (by decide) ?_
          simp only [nI_1]
          have z := ih (i + 1) (by omega) M63 hL63 hS63 (ho.tr hx63)
          first
            | (rw [show rsF (rsP ln c k j) (i + 1) = ((rsF (rsP ln c k j) i).1 + 1, nI (10 * (i / 2) + i % 2)) from (if_pos b66).trans (by rw [if_pos b71])] at z; exact z)
            | (rw [show rsF (rsP ln c k j) (i + 1) = ((rsF (rsP ln c k j) i).1 + 1, (rsF (rsP ln c k j) i).2) from (if_pos b66).trans (by rw [if_neg b71])] at z; exact z)
            | (rw [show rsF (rsP ln c k j) (i + 1) = rsF (rsP ln c k j) i from if_neg (by rw [b66]; decide)] at z; exact z)
theorem cr_rests {g : GT} {M : MM} {L : LL} {S : ST} {b : Nat} {x y w : Int32} (h : RR M L S) (ok : StOK b S) : CTQ g mX6_rests 6 [.ref (dq_A g 102), .int x, .int y, .int w] M L (QR M L (sp_rests S x y w)) := by
  have hL := h.1
  have hS : ScR (M 107) (17 * 0) (ln_n (st_l S)) (st_c S) := h.2.1
  have hA := h.2.2.2.2.1
  have okl := ok.2.2.1
  have oc := ok.2.2.2.1
  have a1 := okl.1
  have hb := ok.2.2.2.2.2.2.2
  have h64 := ok.1
  refine ct_of ok_X6_rests (lv := [some (.ref (dq_A g 102)), some (.int x), some (.int y), some (.int w), none, none, none]) rfl (Nat.le_of_ble_eq_true rfl) ?_
  refine ro_aload_n dX6_rests_0 rfl rfl ?_
  refine ro_iload_n dX6_rests_1 rfl rfl ?_
  refine ro_callV1 ok_X6_isHouse (cr_isHouse hL okl x) ce_X6 rfl rfl gX6_rests_X6_isHouse (Nat.le_of_ble_eq_true rfl) (Nat.le_of_ble_eq_true rfl) dX6_rests_2 ?_
  refine ro_if_eq 16 dX6_rests_5 (by decide) (fun b5 => ?_) (fun b5 => ?_)
  · rw [bI_eq0] at b5
    refine ro_iconst (v := -1) dX6_rests_16 (by decide) ?_
    refine ro_iret rfl dX6_rests_17 ?_
    rw [show sp_rests S x y w = (-1, S) from by unfold sp_rests; rw [if_neg (fun z => by first | (rw [b5] at z; exact absurd z.1 (by decide)) | (rw [b13] at z; exact absurd z.2 (by decide)))]]
    exact ⟨rfl, h, RScr.rf.all, rfl⟩
  · rw [bI_ne0] at b5
    refine ro_aload_n dX6_rests_8 rfl rfl ?_
    refine ro_iload_n dX6_rests_9 rfl rfl ?_
    refine ro_callV1 ok_X6_isHouse (cr_isHouse hL okl y) ce_X6 rfl rfl gX6_rests_X6_isHouse (Nat.le_of_ble_eq_true rfl) (Nat.le_of_ble_eq_true rfl) dX6_rests_10 ?_
    refine ro_if_ne 18 dX6_rests_13 (by decide) (fun b13 => ?_) (fun b13 => ?_)
    · rw [bI_ne0] at b13
      obtain ⟨k, hk, rfl⟩ := hB_some (by omega) b5
      obtain ⟨j, hj, rfl⟩ := hB_some (by omega) b13
      refine ro_iload_n dX6_rests_18 rfl rfl ?_
      refine ro_iload_n dX6_rests_19 rfl rfl ?_
      refine ro_icmp_eq 33 dX6_rests_20 (by decide) (fun b20 => ?_) (fun b20 => ?_)
      · refine ro_bipush (v := -2) dX6_rests_33 (by decide) ?_
        refine ro_iret rfl dX6_rests_35 ?_
        rw [show sp_rests S (nI k) (nI j) w = (-2, S) from by unfold sp_rests; rw [if_pos ⟨b5, b13⟩, if_pos (by first | exact Or.inl b20 | exact Or.inr b30)]]
        exact ⟨rfl, h, RScr.rf.all, rfl⟩
      · have hkj : k ≠ j := fun z => b20 (by rw [z])
        refine ro_iload_n dX6_rests_23 rfl rfl ?_
        refine ro_i2l dX6_rests_24 ?_
        refine ro_lconst (v := 0) dX6_rests_25 (by decide) ?_
        refine ro_lconst (v := 1) dX6_rests_26 (by decide) ?_
        refine ro_callS3 ok_X6_in (cr_in _ _ _) gX6_rests_X6_in (Nat.le_of_ble_eq_true rfl) (Nat.le_of_ble_eq_true rfl) dX6_rests_27 ?_
        rw [in_hB (n := 2) rfl (by decide), zo_hB]
        refine ro_if_ne 36 dX6_rests_30 (by decide) (fun b30 => ?_) (fun b30 => ?_)
        · rw [bI_ne0] at b30
          refine ro_iconst (v := 0) dX6_rests_36 (by decide) ?_
          refine ro_istore4 dX6_rests_37 (Nat.le_of_ble_eq_true rfl) rfl ?_
          refine ro_bipush (v := -9) dX6_rests_39 (by decide) ?_
          refine ro_istore5 dX6_rests_41 (Nat.le_of_ble_eq_true rfl) rfl ?_
          refine ro_iconst (v := 0) dX6_rests_43 (by decide) ?_
          refine ro_istore6 dX6_rests_44 (Nat.le_of_ble_eq_true rfl) rfl ?_
          refine JW.mono ?_ (lr_rests (w := w) hk hj hkj okl oc (by omega) 4 0 rfl M hL hS RScr.rf)
          rintro v M' L' ⟨rfl, ho, rfl⟩
          refine ⟨?_, h.scr ho rfl, ho.all, rfl⟩
          rw [show sp_rests S (nI k) (nI j) w = (if w = 0 then nI (rsF (rsP (st_l S) (st_c S) k j) 4).1 else (rsF (rsP (st_l S) (st_c S) k j) 4).2, S) from by unfold sp_rests; rw [if_pos ⟨b5, b13⟩, if_neg (fun z => z.elim b20 (fun z => by rw [b30] at z; cases z)), kx_nI (by omega), kx_nI (by omega)]]
        · rw [bI_eq0] at b30
          refine ro_bipush (v := -2) dX6_rests_33 (by decide) ?_
          refine ro_iret rfl dX6_rests_35 ?_
          rw [show sp_rests S (nI k) (nI j) w = (-2, S) from by unfold sp_rests; rw [if_pos ⟨b5, b13⟩, if_pos (by first | exact Or.inl b20 | exact Or.inr b30)]]
          exact ⟨rfl, h, RScr.rf.all, rfl⟩
    · rw [bI_eq0] at b13
      refine ro_iconst (v := -1) dX6_rests_16 (by decide) ?_
      refine ro_iret rfl dX6_rests_17 ?_
      rw [show sp_rests S x y w = (-1, S) from by unfold sp_rests; rw [if_neg (fun z => by first | (rw [b5] at z; exact absurd z.1 (by decide)) | (rw [b13] at z; exact absurd z.2 (by decide)))]]
      exact ⟨rfl, h, RScr.rf.all, rfl⟩
