theorem ph_66 {g : GT} {M : MM} {L : LL} {s b : Nat} {ln : LN} {c : SC} {w : Nat → Bool} {dy : Nat} {x1 x2 : Int32} (hs : sc_ok s) (hL : LaneR M 16 ln) (ok : LnOK ln) (hS : SceneR M s c) (oc : ScOK (ln_n ln) b c) (hb : b < 2 ^ 30) (hdy : dy ≤ 9) : JW g mX4_passHourBy 3 (fun v M' L' => v = some (.int (nI (ctB (fun h => w h || (decide (3 ≤ dy) && !decide (sc_kn c h ||| orB (2 ^ ln_n ln - 1).testBit (sc_kn c) (ln_n ln) = sc_kn c h))) (ln_n ln)))) ∧ SceneR M' s (sc_who c, (if 3 ≤ dy then tellK (2 ^ ln_n ln - 1) (orB (2 ^ ln_n ln - 1).testBit (sc_kn c) (ln_n ln)) (sc_kn c) (ln_n ln) else sc_kn c), sc_vo c, dy, sc_hr c + 1) ∧ OnlyB s (s + 3) M M' ∧ L' = L) M L 66 [some (.ref (dq_A g s)), some (.int x1), some (.int x2), some (.int (nI (mkB w (ln_n ln)))), none] [.int (nI dy), .ref (dq_A g s)] := by
  have a1 := ok.1
  have h32 : 2 ^ ln_n ln ≤ 64 := Nat.le_trans (Nat.pow_le_pow_right (by decide) a1) (by decide)
  have hpos : 0 < 2 ^ ln_n ln := Nat.two_pow_pos _
  refine pf_X4_dry hs in_X4_passHourBy_X4 lk_X4_passHourBy_25  dX4_passHourBy_66 (fun M66 e66 => ?_)
  have ho66 : OnlyB s (s + 3) M M66 := OnlyB.up e66 (by omega) (by omega)
  have hS66 : SceneR M66 s (sc_who c, sc_kn c, sc_vo c, dy, sc_hr c) := by
    refine ⟨fun j hj => ?_, fun j hj => ?_, fun j hj => ?_, ?_, ?_⟩
    · rw [e66, va_up_ne _ _ (by omega)]; exact hS.1 j hj
    · rw [e66, va_up_ne _ _ (by omega)]; exact hS.2.1 j hj
    · rw [e66, va_up_ne _ _ (by omega)]; exact hS.2.2.1 j hj
    · rw [e66, va_up_self, pk_us]; rfl
    · rw [e66, va_up_self, pk_un (by decide)]; exact hS.2.2.2.2
  have hL66 := hL.kS hs ho66
  have oc66 : ScOK (ln_n ln) b (sc_who c, sc_kn c, sc_vo c, dy, sc_hr c) := ⟨oc.1, oc.2.1, oc.2.2.1, oc.2.2.2.1, hdy, oc.2.2.2.2.2⟩
  refine ro_aload_n dX4_passHourBy_69 rfl rfl ?_
  refine ro_callV0 ok_X4_areStrayed (ct_areStrayed hs hS66.2.2.2.1 hdy) (ce_X4 hs) rfl rfl gX4_passHourBy_X4_areStrayed (Nat.le_of_ble_eq_true rfl) (Nat.le_of_ble_eq_true rfl) dX4_passHourBy_70 ?_
  refine ro_if_eq 100 dX4_passHourBy_73 (by decide) (fun b73 => ?_) (fun b73 => ?_)
  · rw [bI_eq0, decide_eq_false_iff_not] at b73
    replace b73 : ¬ 3 ≤ dy := b73
    refine ro_aload_n dX4_passHourBy_100 rfl rfl ?_
    refine ro_dup dX4_passHourBy_101 rfl ?_
    refine gf_X4_hour hs in_X4_passHourBy_X4 lk_X4_passHourBy_29 dX4_passHourBy_102 ?_
    first
      | rw [hS95.2.2.2.2]
      | rw [hS66.2.2.2.2]
    refine ro_iconst (v := 1) dX4_passHourBy_105 (by decide) ?_
    refine ro_iadd dX4_passHourBy_106 ?_
    rw [nI_1]
    refine pf_X4_hour hs in_X4_passHourBy_X4 lk_X4_passHourBy_29  dX4_passHourBy_107 (fun M107 e107 => ?_)
    have q107 : OnlyB s (s + 3) _ M107 := OnlyB.up e107 (by omega) (by omega)
    refine ro_iload_n dX4_passHourBy_110 rfl rfl ?_
    refine ro_callS1 ok_J6_bitCount_0f7a4 (ct_bitCount (Nat.lt_of_lt_of_le (mkB_lt _ (ln_n ln)) h32)) gX4_passHourBy_J6_bitCount_0f7a4 (Nat.le_of_ble_eq_true rfl) (Nat.le_of_ble_eq_true rfl) dX4_passHourBy_111 ?_
    refine ro_iret rfl dX4_passHourBy_114 ?_
    rw [pop_mkB _ (by omega)]
    first
      | (refine ⟨?_, ?_, (ho66.tr ho95).tr q107, rfl⟩
         · refine congrArg (fun z => some (Value.int (nI z))) (ctB_cong (fun k hk => ?_))
           rw [all_bit _ a1 k hk, decide_eq_true b73]
           rfl
         · rw [if_pos b73]
           refine ⟨fun j hj => ?_, fun j hj => ?_, fun j hj => ?_, ?_, ?_⟩
           · rw [e107, va_up_ne _ _ (by omega)]; exact hS95.1 j hj
           · rw [e107, va_up_ne _ _ (by omega)]; exact hS95.2.1 j hj
           · rw [e107, va_up_ne _ _ (by omega)]; exact hS95.2.2.1 j hj
           · rw [e107, va_up_self, pk_un (by decide)]; exact hS95.2.2.2.1
           · rw [e107, va_up_self, pk_us]; rfl)
      | (refine ⟨?_, ?_, ho66.tr q107, rfl⟩
         · refine congrArg (fun z => some (Value.int (nI z))) (ctB_cong (fun k hk => ?_))
           rw [decide_eq_false b73, Bool.false_and, Bool.or_false]
         · rw [if_neg b73]
           refine ⟨fun j hj => ?_, fun j hj => ?_, fun j hj => ?_, ?_, ?_⟩
           · rw [e107, va_up_ne _ _ (by omega)]; exact hS66.1 j hj
           · rw [e107, va_up_ne _ _ (by omega)]; exact hS66.2.1 j hj
           · rw [e107, va_up_ne _ _ (by omega)]; exact hS66.2.2.1 j hj
           · rw [e107, va_up_self, pk_un (by decide)]; exact hS66.2.2.2.1
           · rw [e107, va_up_self, pk_us]; rfl)
  · rw [bI_ne0, decide_eq_true_eq] at b73
    replace b73 : 3 ≤ dy := b73
    refine ro_aload_n dX4_passHourBy_76 rfl rfl ?_
    refine gf_X4_lane hs in_X4_passHourBy_X4 lk_X4_passHourBy_21 dX4_passHourBy_77 ?_
    refine ro_callV0 ok_X2_allHouses (ct_allHouses ln_16 hL66.1 a1) (ce_X2 ln_16) rfl rfl gX4_passHourBy_X2_allHouses (Nat.le_of_ble_eq_true rfl) (Nat.le_of_ble_eq_true rfl) dX4_passHourBy_80 ?_
    refine ro_istore4 dX4_passHourBy_83 (Nat.le_of_ble_eq_true rfl) rfl ?_
    refine ro_iload_n dX4_passHourBy_85 rfl rfl ?_
    refine ro_aload_n dX4_passHourBy_86 rfl rfl ?_
    refine ro_iload dX4_passHourBy_87 rfl ?_
    refine ro_aload_n dX4_passHourBy_89 rfl rfl ?_
    refine ro_iload dX4_passHourBy_90 rfl ?_
    refine ro_callV1 ok_X4_knownBy (ct_knownBy hs hL66 ok hS66 oc66 hb (by omega)) (ce_X4 hs) rfl rfl gX4_passHourBy_X4_knownBy (Nat.le_of_ble_eq_true rfl) (Nat.le_of_ble_eq_true rfl) dX4_passHourBy_92 ?_
    refine ro_callV2Q ok_X4_tellAt (ct_tellAt (b := b) hs hL66 ok hS66 oc66.2.2.1 (by omega) (orB_lt (w := 6) (fun k _ => oc.2.2.1 k))) (ce_X4 hs) rfl rfl gX4_passHourBy_X4_tellAt (Nat.le_of_ble_eq_true rfl) (Nat.le_of_ble_eq_true rfl) dX4_passHourBy_95 (fun v95 M95 L95 q95 => ?_)
    obtain ⟨rfl, hS95, ho95, rfl⟩ := q95
    refine ro_ior dX4_passHourBy_98 ?_
    rw [fa_or, mkB_or]
    refine ro_istore_n3 dX4_passHourBy_99 (Nat.le_of_ble_eq_true rfl) rfl ?_
    refine ro_aload_n dX4_passHourBy_100 rfl rfl ?_
    refine ro_dup dX4_passHourBy_101 rfl ?_
    refine gf_X4_hour hs in_X4_passHourBy_X4 lk_X4_passHourBy_29 dX4_passHourBy_102 ?_
    first
      | rw [hS95.2.2.2.2]
      | rw [hS66.2.2.2.2]
    refine ro_iconst (v := 1) dX4_passHourBy_105 (by decide) ?_
    refine ro_iadd dX4_passHourBy_106 ?_
    rw [nI_1]
    refine pf_X4_hour hs in_X4_passHourBy_X4 lk_X4_passHourBy_29  dX4_passHourBy_107 (fun M107 e107 => ?_)
    have q107 : OnlyB s (s + 3) _ M107 := OnlyB.up e107 (by omega) (by omega)
    refine ro_iload_n dX4_passHourBy_110 rfl rfl ?_
    refine ro_callS1 ok_J6_bitCount_0f7a4 (ct_bitCount (Nat.lt_of_lt_of_le (mkB_lt _ (ln_n ln)) h32)) gX4_passHourBy_J6_bitCount_0f7a4 (Nat.le_of_ble_eq_true rfl) (Nat.le_of_ble_eq_true rfl) dX4_passHourBy_111 ?_
    refine ro_iret rfl dX4_passHourBy_114 ?_
    rw [pop_mkB _ (by omega)]
    first
      | (refine ⟨?_, ?_, (ho66.tr ho95).tr q107, rfl⟩
         · refine congrArg (fun z => some (Value.int (nI z))) (ctB_cong (fun k hk => ?_))
           rw [all_bit _ a1 k hk, decide_eq_true b73]
           rfl
         · rw [if_pos b73]
           refine ⟨fun j hj => ?_, fun j hj => ?_, fun j hj => ?_, ?_, ?_⟩
           · rw [e107, va_up_ne _ _ (by omega)]; exact hS95.1 j hj
           · rw [e107, va_up_ne _ _ (by omega)]; exact hS95.2.1 j hj
           · rw [e107, va_up_ne _ _ (by omega)]; exact hS95.2.2.1 j hj
           · rw [e107, va_up_self, pk_un (by decide)]; exact hS95.2.2.2.1
           · rw [e107, va_up_self, pk_us]; rfl)
      | (refine ⟨?_, ?_, ho66.tr q107, rfl⟩
         · refine congrArg (fun z => some (Value.int (nI z))) (ctB_cong (fun k hk => ?_))
           rw [decide_eq_false b73, Bool.false_and, Bool.or_false]
         · rw [if_neg b73]
           refine ⟨fun j hj => ?_, fun j hj => ?_, fun j hj => ?_, ?_, ?_⟩
           · rw [e107, va_up_ne _ _ (by omega)]; exact hS66.1 j hj
           · rw [e107, va_up_ne _ _ (by omega)]; exact hS66.2.1 j hj
           · rw [e107, va_up_ne _ _ (by omega)]; exact hS66.2.2.1 j hj
           · rw [e107, va_up_self, pk_un (by decide)]; exact hS66.2.2.2.1
           · rw [e107, va_up_self, pk_us]; rfl)
theorem ph_46 {g : GT} {M : MM} {L : LL} {s b : Nat} {ln : LN} {c : SC} {w : Nat → Bool} {r : Nat} {x2 : Int32} (hs : sc_ok s) (hL : LaneR M 16 ln) (ok : LnOK ln) (hS : SceneR M s c) (oc : ScOK (ln_n ln) b c) (hb : b < 2 ^ 30) (hr : r ≤ 9) : JW g mX4_passHourBy 3 (fun v M' L' => v = some (.int (nI (ctB (fun h => w h || (decide (3 ≤ dryN r (sc_dry c)) && !decide (sc_kn c h ||| orB (2 ^ ln_n ln - 1).testBit (sc_kn c) (ln_n ln) = sc_kn c h))) (ln_n ln)))) ∧ SceneR M' s (sc_who c, (if 3 ≤ dryN r (sc_dry c) then tellK (2 ^ ln_n ln - 1) (orB (2 ^ ln_n ln - 1).testBit (sc_kn c) (ln_n ln)) (sc_kn c) (ln_n ln) else sc_kn c), sc_vo c, dryN r (sc_dry c), sc_hr c + 1) ∧ OnlyB s (s + 3) M M' ∧ L' = L) M L 46 [some (.ref (dq_A g s)), some (.int (nI r)), some (.int x2), some (.int (nI (mkB w (ln_n ln)))), none] [] := by
  have hdy := oc.2.2.2.2.1
  refine ro_aload_n dX4_passHourBy_46 rfl rfl ?_
  refine ro_iload_n dX4_passHourBy_47 rfl rfl ?_
  refine ro_if_ne 65 dX4_passHourBy_48 (by decide) (fun b48 => ?_) (fun b48 => ?_)
  · replace b48 : r ≠ 0 := fun z => b48 (by rw [z]; rfl)
    refine ro_iconst (v := 0) dX4_passHourBy_65 (by decide) ?_
    first
      | exact ph_66 hs hL ok hS oc hb (dryN_le _ _)
      | (refine ro_top (w := nI (dryN r (sc_dry c))) (by unfold dryN; rw [if_neg b48]; rfl) ?_
         exact ph_66 hs hL ok hS oc hb (dryN_le _ _))
  · replace b48 : r = 0 := (nI_eq (b := 0) (by omega) (by decide)).mp b48
    refine ro_aload_n dX4_passHourBy_51 rfl rfl ?_
    refine gf_X4_dry hs in_X4_passHourBy_X4 lk_X4_passHourBy_25 dX4_passHourBy_52 ?_
    rw [hS.2.2.2.1]
    refine ro_iconst (v := 1) dX4_passHourBy_55 (by decide) ?_
    refine ro_iadd dX4_passHourBy_56 ?_
    rw [nI_1]
    refine ro_bipush (v := 9) dX4_passHourBy_57 (by decide) ?_
    refine ro_min lk_X4_passHourBy_96 dX4_passHourBy_59 ?_
    refine ro_top (w := nI (dryN r (sc_dry c))) ?_ ?_
    · have q : (9 : Int32) < nI (sc_dry c + 1) ↔ 9 < sc_dry c + 1 := nI_ltI (a := 9) (by decide) (by omega)
      unfold dryN
      rw [if_pos b48]
      by_cases h9 : 9 < sc_dry c + 1
      · rw [if_pos h9, if_pos (q.mpr h9)]; rfl
      · rw [if_neg h9, if_neg (fun z => h9 (q.mp z))]
    refine ro_goto 66 dX4_passHourBy_62 (by decide) ?_
    first
      | exact ph_66 hs hL ok hS oc hb (dryN_le _ _)
      | (refine ro_top (w := nI (dryN r (sc_dry c))) (by unfold dryN; rw [if_neg b48]; rfl) ?_
         exact ph_66 hs hL ok hS oc hb (dryN_le _ _))
theorem tell_kn1 {l : LN} {r : Nat} {c : SC} : tellK (mkB (hearB l c r) (ln_n l)) (2 ^ ln_thing l (sayK l c)) (sc_kn c) (ln_n l) = kn1 l r c := by
  funext h
  unfold tellK kn1
  rw [mkB_bit]
  by_cases h1 : h < ln_n l
  · simp [h1]
  · simp [h1]
theorem none_kn1 {l : LN} {r : Nat} {c : SC} (h0 : ln_s l = 0) : kn1 l r c = sc_kn c := by
  funext h
  unfold kn1
  simp [hearB, h0]
theorem all_kn1 {l : LN} (h5 : ln_n l ≤ 5) (f : Nat → Nat) : orB (2 ^ ln_n l - 1).testBit f (ln_n l) = orB (fun _ => true) f (ln_n l) := orB_cong (fun k hk => all_bit _ h5 k hk) (fun _ _ => rfl)
theorem tell_kn2 {l : LN} {r : Nat} {c : SC} (h5 : ln_n l ≤ 5) : (if 3 ≤ dryN r (sc_dry c) then tellK (2 ^ ln_n l - 1) (orB (2 ^ ln_n l - 1).testBit (kn1 l r c) (ln_n l)) (kn1 l r c) (ln_n l) else kn1 l r c) = kn2 l r c := by
  funext h
  unfold kn2
  rw [all_kn1 h5]
  by_cases h3 : 3 ≤ dryN r (sc_dry c)
  · rw [if_pos h3]
    unfold tellK
    by_cases h1 : h < ln_n l
    · simp [h1, h3, all_bit _ h5 h h1]
    · simp [h1]
  · simp [h3]
theorem wis_ok {l : LN} {r : Nat} {c : SC} {w : Nat → Bool} (h5 : ln_n l ≤ 5) (hw : ∀ h, h < ln_n l → w h = !decide (kn1 l r c h = sc_kn c h)) : ctB (fun h => w h || (decide (3 ≤ dryN r (sc_dry c)) && !decide (kn1 l r c h ||| orB (2 ^ ln_n l - 1).testBit (kn1 l r c) (ln_n l) = kn1 l r c h))) (ln_n l) = hourN l r c := by
  unfold hourN
  refine ctB_cong (fun h hh => ?_)
  rw [hw h hh, all_kn1 h5]
  unfold kn2
  by_cases h3 : 3 ≤ dryN r (sc_dry c)
  · simp only [h3, hh, and_self, if_true, decide_true, Bool.true_and]
    generalize orB (fun _ => true) (kn1 l r c) (ln_n l) = al
    have hk : ∃ y, kn1 l r c h = sc_kn c h ||| y := by
      unfold kn1
      split
      · exact ⟨_, rfl⟩
      · exact ⟨0, (Nat.or_zero _).symm⟩
    obtain ⟨y, hy⟩ := hk
    rw [hy]
    have hg := or_grow (a := sc_kn c h) (b := y) (c := al)
    by_cases q1 : sc_kn c h ||| y = sc_kn c h <;> by_cases q2 : sc_kn c h ||| y ||| al = sc_kn c h ||| y <;> simp [q1, q2, hg]
  · simp [h3]
theorem wis1 {l : LN} {r : Nat} {c : SC} : ∀ h, h < ln_n l → ((mkB (hearB l c r) (ln_n l)).testBit h && !decide (sc_kn c h ||| 2 ^ ln_thing l (sayK l c) = sc_kn c h)) = !decide (kn1 l r c h = sc_kn c h) := by
  intro h hh
  rw [mkB_bit]
  unfold kn1
  by_cases hb : hearB l c r h = true
  · simp [hh, hb]
  · simp [hh, hb]
theorem ct_passHourBy {g : GT} {M : MM} {L : LL} {s b : Nat} {ln : LN} {c : SC} {r : Nat} (hs : sc_ok s) (hL : LaneR M 16 ln) (ok : LnOK ln) (hS : SceneR M s c) (oc : ScOK (ln_n ln) b c) (hb : b < 2 ^ 30) (hr : r ≤ 9) : CTQ g mX4_passHourBy 3 [.ref (dq_A g s), .int (nI r)] M L (fun v M' L' => v = some (.int (nI (hourN ln r c))) ∧ SceneR M' s (hourC ln r c) ∧ OnlyB s (s + 3) M M' ∧ L' = L) := by
  have a1 := ok.1
  have h8 := ok.2.1
  have hh := oc.2.2.2.2.2
  have h32 : 2 ^ ln_n ln ≤ 64 := Nat.le_trans (Nat.pow_le_pow_right (by decide) a1) (by decide)
  refine ct_of ok_X4_passHourBy (lv := [some (.ref (dq_A g s)), some (.int (nI r)), none, none, none]) rfl (Nat.le_of_ble_eq_true rfl) ?_
  refine ro_aload_n dX4_passHourBy_0 rfl rfl ?_
  refine gf_X4_lane hs in_X4_passHourBy_X4 lk_X4_passHourBy_21 dX4_passHourBy_1 ?_
  refine ro_aload_n dX4_passHourBy_4 rfl rfl ?_
  refine gf_X4_hour hs in_X4_passHourBy_X4 lk_X4_passHourBy_29 dX4_passHourBy_5 ?_
  rw [hS.2.2.2.2]
  refine ro_callV1 ok_X2_sayingAt (ct_sayingAt (h := sc_hr c) ln_16 hL.2.1 h8 (by omega)) (ce_X2 ln_16) rfl rfl gX4_passHourBy_X2_sayingAt (Nat.le_of_ble_eq_true rfl) (Nat.le_of_ble_eq_true rfl) dX4_passHourBy_8 ?_
  refine ro_istore_n2 dX4_passHourBy_11 (Nat.le_of_ble_eq_true rfl) rfl ?_
  refine ro_iconst (v := 0) dX4_passHourBy_12 (by decide) ?_
  refine ro_istore_n3 dX4_passHourBy_13 (Nat.le_of_ble_eq_true rfl) rfl ?_
  refine ro_aload_n dX4_passHourBy_14 rfl rfl ?_
  refine gf_X4_lane hs in_X4_passHourBy_X4 lk_X4_passHourBy_21 dX4_passHourBy_15 ?_
  refine ro_iload_n dX4_passHourBy_18 rfl rfl ?_
  refine ro_callV1 ok_X2_hasSaying (ct_hasSaying ln_16 hL.2.1 (if ln_s ln = 0 then (-9 : Int32) else nI (sc_hr c % ln_s ln))) (ce_X2 ln_16) rfl rfl gX4_passHourBy_X2_hasSaying (Nat.le_of_ble_eq_true rfl) (Nat.le_of_ble_eq_true rfl) dX4_passHourBy_19 ?_
  rw [say_has h8]
  refine ro_if_eq 46 dX4_passHourBy_22 (by decide) (fun b22 => ?_) (fun b22 => ?_)
  · rw [bI_eq0, Bool.not_eq_false', decide_eq_true_eq] at b22
    first
      | (refine JW.mono ?_ (ph_46 hs (hL.kS hs ho42) ok hS42 (c := sc_setK c (tellK (mkB (hearB ln c r) (ln_n ln)) (2 ^ ln_thing ln (sayK ln c)) (sc_kn c) (ln_n ln))) ⟨oc.1, oc.2.1, by rw [tell_kn1]; exact kn1_lt ok oc, oc.2.2.2.1, oc.2.2.2.2.1, oc.2.2.2.2.2⟩ hb hr)
         rintro v M' L' ⟨rfl, h2, h3, rfl⟩
         rw [tell_kn1] at h2
         refine ⟨?_, ?_, ho42.tr h3, rfl⟩
         · rw [← wis_ok a1 wis1, tell_kn1]; rfl
         · rw [hourC, ← tell_kn2 a1]; exact h2)
      | (rw [show (0 : Int32) = nI (mkB (fun _ => false) (ln_n ln)) from by rw [mkB_0]; rfl]
         refine JW.mono ?_ (ph_46 hs hL ok hS oc hb hr)
         rintro v M' L' ⟨rfl, h2, h3, rfl⟩
         refine ⟨?_, ?_, h3, rfl⟩
         · rw [← wis_ok (w := fun _ => false) a1 (fun h _ => by rw [none_kn1 b22]; simp), none_kn1 b22]
         · rw [hourC, ← tell_kn2 a1, none_kn1 b22]; exact h2)
  · rw [bI_ne0, Bool.not_eq_true', decide_eq_false_iff_not] at b22
    rw [if_neg b22]
    have hk := Nat.mod_lt (sc_hr c) (show 0 < ln_s ln by omega)
    have hp := ok.2.2.2.2.1 _ hk
    refine ro_aload_n dX4_passHourBy_25 rfl rfl ?_
    refine ro_aload_n dX4_passHourBy_26 rfl rfl ?_
    refine ro_iload_n dX4_passHourBy_27 rfl rfl ?_
    refine ro_callV1 ok_X4_housesThatHearBy (ct_hearBy hs hL ok hS oc hb hr) (ce_X4 hs) rfl rfl gX4_passHourBy_X4_housesThatHearBy (Nat.le_of_ble_eq_true rfl) (Nat.le_of_ble_eq_true rfl) dX4_passHourBy_28 ?_
    refine ro_iconst (v := 1) dX4_passHourBy_31 (by decide) ?_
    refine ro_aload_n dX4_passHourBy_32 rfl rfl ?_
    refine gf_X4_lane hs in_X4_passHourBy_X4 lk_X4_passHourBy_21 dX4_passHourBy_33 ?_
    refine gf_X2_thing ln_16 in_X4_passHourBy_X2 lk_X4_passHourBy_89 dX4_passHourBy_36 ?_
    refine ro_iload_n dX4_passHourBy_39 rfl rfl ?_
    refine ro_ai (ar_l4 ln_16) (k := sayK ln c) rfl (by unfold sayK; omega) dX4_passHourBy_40 ?_
    rw [hL.2.2.2.2.2.2.1 (sayK ln c) hk]
    have ht6 : ln_thing ln (sayK ln c) < 6 := hp.2.1
    have ht64 : 2 ^ ln_thing ln (sayK ln c) < 2 ^ 6 := Nat.pow_lt_pow_right (by decide) ht6
    refine ro_ishl dX4_passHourBy_41 ?_
    rw [sh_1 _ (by omega)]
    refine ro_callV2Q ok_X4_tellAt (ct_tellAt (b := b) hs hL ok hS oc.2.2.1 (Nat.lt_of_lt_of_le (mkB_lt _ (ln_n ln)) (by omega)) ht64) (ce_X4 hs) rfl rfl gX4_passHourBy_X4_tellAt (Nat.le_of_ble_eq_true rfl) (Nat.le_of_ble_eq_true rfl) dX4_passHourBy_42 (fun v42 M42 L42 q42 => ?_)
    obtain ⟨rfl, hS42, ho42, rfl⟩ := q42
    refine ro_istore_n3 dX4_passHourBy_45 (Nat.le_of_ble_eq_true rfl) rfl ?_
    first
      | (refine JW.mono ?_ (ph_46 hs (hL.kS hs ho42) ok hS42 (c := sc_setK c (tellK (mkB (hearB ln c r) (ln_n ln)) (2 ^ ln_thing ln (sayK ln c)) (sc_kn c) (ln_n ln))) ⟨oc.1, oc.2.1, by rw [tell_kn1]; exact kn1_lt ok oc, oc.2.2.2.1, oc.2.2.2.2.1, oc.2.2.2.2.2⟩ hb hr)
         rintro v M' L' ⟨rfl, h2, h3, rfl⟩
         rw [tell_kn1] at h2
         refine ⟨?_, ?_, ho42.tr h3, rfl⟩
         · rw [← wis_ok a1 wis1, tell_kn1]; rfl
         · rw [hourC, ← tell_kn2 a1]; exact h2)
      | (rw [show (0 : Int32) = nI (mkB (fun _ => false) (ln_n ln)) from by rw [mkB_0]; rfl]
         refine JW.mono ?_ (ph_46 hs hL ok hS oc hb hr)
         rintro v M' L' ⟨rfl, h2, h3, rfl⟩
         refine ⟨?_, ?_, h3, rfl⟩
         · rw [← wis_ok (w := fun _ => false) a1 (fun h _ => by rw [none_kn1 b22]; simp), none_kn1 b22]
         · rw [hourC, ← tell_kn2 a1, none_kn1 b22]; exact h2)
