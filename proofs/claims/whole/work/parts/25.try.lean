/-- one hour by its own rain; n hours -/
def nextC (l : LN) (c : SC) : SC := hourC l (ln_rainAt l (sc_hr c)) c
def hrsC (l : LN) : Nat → SC → SC
  | 0, c => c
  | n + 1, c => nextC l (hrsC l n c)
theorem nextC_ok {l : LN} {n b : Nat} {c : SC} (ok : LnOK l) (oc : ScOK n b c) : ScOK n (b + 1) (nextC l c) := hourC_ok ok oc
theorem hrsC_ok {l : LN} {n b : Nat} {c : SC} (ok : LnOK l) (oc : ScOK n b c) : ∀ k, ScOK n (b + k) (hrsC l k c)
  | 0 => oc
  | k + 1 => nextC_ok ok (hrsC_ok ok oc k)
theorem ct_hearNow {g : GT} {M : MM} {L : LL} {s b : Nat} {ln : LN} {c : SC} (hs : sc_ok s) (hL : LaneR M 16 ln) (ok : LnOK ln) (hS : SceneR M s c) (oc : ScOK (ln_n ln) b c) (hb : b < 2 ^ 30) : CT g mX4_housesThatHear 3 [.ref (dq_A g s)] M L (some (.int (nI (mkB (hearB ln c (ln_rainAt ln (sc_hr c))) (ln_n ln))))) M L := by
  have a1 := ok.1
  have hh := oc.2.2.2.2.2
  refine ct_of ok_X4_housesThatHear (lv := [some (.ref (dq_A g s))]) rfl (Nat.le_of_ble_eq_true rfl) ?_
  refine ro_aload_n dX4_housesThatHear_0 rfl rfl ?_
  refine ro_aload_n dX4_housesThatHear_1 rfl rfl ?_
  refine gf_X4_lane hs in_X4_housesThatHear_X4 lk_X4_housesThatHear_21 dX4_housesThatHear_2 ?_
  refine ro_aload_n dX4_housesThatHear_5 rfl rfl ?_
  refine gf_X4_hour hs in_X4_housesThatHear_X4 lk_X4_housesThatHear_29 dX4_housesThatHear_6 ?_
  rw [hS.2.2.2.2]
  refine ro_callV1 ok_X2_rainAt (ct_rainAt (h := sc_hr c) ln_16 hL ok (by omega)) (ce_X2 ln_16) rfl rfl gX4_housesThatHear_X2_rainAt (Nat.le_of_ble_eq_true rfl) (Nat.le_of_ble_eq_true rfl) dX4_housesThatHear_9 ?_
  refine ro_callV1 ok_X4_housesThatHearBy (ct_hearBy hs hL ok hS oc hb (rainAt_le ok _)) (ce_X4 hs) rfl rfl gX4_housesThatHear_X4_housesThatHearBy (Nat.le_of_ble_eq_true rfl) (Nat.le_of_ble_eq_true rfl) dX4_housesThatHear_12 ?_
  refine ro_iret rfl dX4_housesThatHear_15 ?_
  exact ⟨rfl, rfl, rfl⟩
theorem ct_passHour {g : GT} {M : MM} {L : LL} {s b : Nat} {ln : LN} {c : SC} (hs : sc_ok s) (hL : LaneR M 16 ln) (ok : LnOK ln) (hS : SceneR M s c) (oc : ScOK (ln_n ln) b c) (hb : b < 2 ^ 30) : CTQ g mX4_passHour 4 [.ref (dq_A g s)] M L (fun v M' L' => v = some (.int (nI (hourN ln (ln_rainAt ln (sc_hr c)) c))) ∧ SceneR M' s (nextC ln c) ∧ OnlyB s (s + 3) M M' ∧ L' = L) := by
  have a1 := ok.1
  have hh := oc.2.2.2.2.2
  refine ct_of ok_X4_passHour (lv := [some (.ref (dq_A g s))]) rfl (Nat.le_of_ble_eq_true rfl) ?_
  refine ro_aload_n dX4_passHour_0 rfl rfl ?_
  refine ro_aload_n dX4_passHour_1 rfl rfl ?_
  refine gf_X4_lane hs in_X4_passHour_X4 lk_X4_passHour_21 dX4_passHour_2 ?_
  refine ro_aload_n dX4_passHour_5 rfl rfl ?_
  refine gf_X4_hour hs in_X4_passHour_X4 lk_X4_passHour_29 dX4_passHour_6 ?_
  rw [hS.2.2.2.2]
  refine ro_callV1 ok_X2_rainAt (ct_rainAt (h := sc_hr c) ln_16 hL ok (by omega)) (ce_X2 ln_16) rfl rfl gX4_passHour_X2_rainAt (Nat.le_of_ble_eq_true rfl) (Nat.le_of_ble_eq_true rfl) dX4_passHour_9 ?_
  refine ro_callV1Q ok_X4_passHourBy (ct_passHourBy hs hL ok hS oc hb (rainAt_le ok _)) (ce_X4 hs) rfl rfl gX4_passHour_X4_passHourBy (Nat.le_of_ble_eq_true rfl) (Nat.le_of_ble_eq_true rfl) dX4_passHour_12 (fun v12 M12 L12 q12 => ?_)
  obtain ⟨rfl, hS12, ho12, rfl⟩ := q12
  refine ro_iret rfl dX4_passHour_15 ?_
  exact ⟨rfl, hS12, ho12, rfl⟩
theorem lp_hours {g : GT} {L : LL} {s b n : Nat} {ln : LN} {c : SC} {M0 : MM} (hs : sc_ok s) (ok : LnOK ln) (oc : ScOK (ln_n ln) b c) (hb : b + n < 2 ^ 30) : ∀ (k i : Nat), i + k = n → ∀ M : MM, LaneR M 16 ln → SceneR M s (hrsC ln i c) → OnlyB s (s + 3) M0 M → JW g mX4_passHours 4 (fun v M' L' => v = none ∧ SceneR M' s (hrsC ln n c) ∧ OnlyB s (s + 3) M0 M' ∧ L' = L) M L 2 [some (.ref (dq_A g s)), some (.int (nI n)), some (.int (nI i))] [] := by
  intro k
  induction k with
  | zero =>
    intro i hi M hL hS ho
    refine ro_iload_n dX4_passHours_2 rfl rfl ?_
    refine ro_iload_n dX4_passHours_3 rfl rfl ?_
    refine ro_icmp_ge 29 dX4_passHours_4 (by decide) (fun b4 => ?_) (fun b4 => ?_)
    · refine ro_vret rfl dX4_passHours_29 ?_
      have e : i = n := by omega
      subst e
      exact ⟨rfl, hS, ho, rfl⟩
    · exact absurd (nI_le (by omega) (by omega)) b4
  | succ k ih =>
    intro i hi M hL hS ho
    have oci := hrsC_ok ok oc i
    have hh := oci.2.2.2.2.2
    refine ro_iload_n dX4_passHours_2 rfl rfl ?_
    refine ro_iload_n dX4_passHours_3 rfl rfl ?_
    refine ro_icmp_ge 29 dX4_passHours_4 (by decide) (fun b4 => ?_) (fun b4 => ?_)
    · exact absurd b4 (nI_ge (by omega) (by omega))
    · refine ro_aload_n dX4_passHours_7 rfl rfl ?_
      refine ro_aload_n dX4_passHours_8 rfl rfl ?_
      refine gf_X4_lane hs in_X4_passHours_X4 lk_X4_passHours_21 dX4_passHours_9 ?_
      refine ro_aload_n dX4_passHours_12 rfl rfl ?_
      refine gf_X4_hour hs in_X4_passHours_X4 lk_X4_passHours_29 dX4_passHours_13 ?_
      rw [hS.2.2.2.2]
      refine ro_callV1 ok_X2_rainAt (ct_rainAt (h := sc_hr (hrsC ln i c)) ln_16 hL ok (by omega)) (ce_X2 ln_16) rfl rfl gX4_passHours_X2_rainAt (Nat.le_of_ble_eq_true rfl) (Nat.le_of_ble_eq_true rfl) dX4_passHours_16 ?_
      refine ro_callV1Q ok_X4_passHourBy (ct_passHourBy hs hL ok hS oci (by omega) (rainAt_le ok _)) (ce_X4 hs) rfl rfl gX4_passHours_X4_passHourBy (Nat.le_of_ble_eq_true rfl) (Nat.le_of_ble_eq_true rfl) dX4_passHours_19 (fun v19 M19 L19 q19 => ?_)
      obtain ⟨rfl, hS19, ho19, rfl⟩ := q19
      refine ro_pop dX4_passHours_22 rfl ?_
      refine ro_iincP2 dX4_passHours_23 (Nat.le_of_ble_eq_true rfl) rfl ?_
      refine ro_goto 2 dX4_passHours_26 (by decide) ?_
      rw [nI_1]
      exact ih (i + 1) (by omega) M19 (hL.kS hs ho19) hS19 (ho.tr ho19)
theorem ct_passHours {g : GT} {M : MM} {L : LL} {s b n : Nat} {ln : LN} {c : SC} (hs : sc_ok s) (hL : LaneR M 16 ln) (ok : LnOK ln) (hS : SceneR M s c) (oc : ScOK (ln_n ln) b c) (hb : b + n < 2 ^ 30) : CTQ g mX4_passHours 4 [.ref (dq_A g s), .int (nI n)] M L (fun v M' L' => v = none ∧ SceneR M' s (hrsC ln n c) ∧ OnlyB s (s + 3) M M' ∧ L' = L) := by
  refine ct_of ok_X4_passHours (lv := [some (.ref (dq_A g s)), some (.int (nI n)), none]) rfl (Nat.le_of_ble_eq_true rfl) ?_
  refine ro_iconst (v := 0) dX4_passHours_0 (by decide) ?_
  refine ro_istore_n2 dX4_passHours_1 (Nat.le_of_ble_eq_true rfl) rfl ?_
  exact lp_hours hs ok oc hb n 0 (by omega) M hL hS OnlyB.rf
theorem ct_canL {g : GT} {M : MM} {L : LL} {s b : Nat} {ln : LN} {c : SC} {h : Nat} (hs : sc_ok s) (hL : LaneR M 16 ln) (ok : LnOK ln) (hS : SceneR M s c) (oc : ScOK (ln_n ln) b c) (hb : b < 2 ^ 30) (hh : h < 2 ^ 30) : CT g mX4_canBeLowered 1 [.ref (dq_A g s), .int (nI h)] M L (some (.int (bI (canL (ln_n ln) c h)))) M L := by
  have a1 := ok.1
  refine ct_of ok_X4_canBeLowered (lv := [some (.ref (dq_A g s)), some (.int (nI h))]) rfl (Nat.le_of_ble_eq_true rfl) ?_
  refine ro_aload_n dX4_canBeLowered_0 rfl rfl ?_
  refine gf_X4_lane hs in_X4_canBeLowered_X4 lk_X4_canBeLowered_21 dX4_canBeLowered_1 ?_
  refine ro_iload_n dX4_canBeLowered_4 rfl rfl ?_
  refine ro_callV1 ok_X2_hasHouse (ct_hasHouse ln_16 hL.1 (nI h)) (ce_X2 ln_16) rfl rfl gX4_canBeLowered_X2_hasHouse (Nat.le_of_ble_eq_true rfl) (Nat.le_of_ble_eq_true rfl) dX4_canBeLowered_5 ?_
  rw [hB_nI (by omega) (by omega)]
  refine ro_if_eq 26 dX4_canBeLowered_8 (by decide) (fun b8 => ?_) (fun b8 => ?_)
  · rw [bI_eq0, decide_eq_false_iff_not] at b8
    refine ro_iconst (v := 0) dX4_canBeLowered_26 (by decide) ?_
    refine ro_zret rfl rfl dX4_canBeLowered_27 ?_
    refine ⟨?_, rfl, rfl⟩
    first
      | (rw [show canL (ln_n ln) c h = false by unfold canL; rw [decide_eq_false b8]; rfl]; rfl)
      | (rw [show canL (ln_n ln) c h = false by unfold canL; rw [decide_eq_false (show ¬ -3 < sc_vo c h by omega), Bool.and_false]]; rfl)
      | (rw [show canL (ln_n ln) c h = true by unfold canL; rw [decide_eq_true b8, decide_eq_true (show -3 < sc_vo c h by omega)]; rfl]; rfl)
  · rw [bI_ne0, decide_eq_true_eq] at b8
    have hv := oc.2.2.2.1 h
    refine ro_aload_n dX4_canBeLowered_11 rfl rfl ?_
    refine gf_X4_voice hs in_X4_canBeLowered_X4 lk_X4_canBeLowered_18 dX4_canBeLowered_12 ?_
    refine ro_iload_n dX4_canBeLowered_15 rfl rfl ?_
    refine ro_ai (ar_s3 hs) rfl (by omega) dX4_canBeLowered_16 ?_
    rw [hS.2.2.1 h (by omega)]
    refine ro_bipush (v := -3) dX4_canBeLowered_17 (by decide) ?_
    refine ro_icmp_le 26 dX4_canBeLowered_19 (by decide) (fun b19 => ?_) (fun b19 => ?_)
    · rw [show (-3 : Int32) = oI (-3) from rfl, oI_le (by omega) (by omega) (by omega) (by omega)] at b19
      refine ro_iconst (v := 0) dX4_canBeLowered_26 (by decide) ?_
      refine ro_zret rfl rfl dX4_canBeLowered_27 ?_
      refine ⟨?_, rfl, rfl⟩
      first
        | (rw [show canL (ln_n ln) c h = false by unfold canL; rw [decide_eq_false b8]; rfl]; rfl)
        | (rw [show canL (ln_n ln) c h = false by unfold canL; rw [decide_eq_false (show ¬ -3 < sc_vo c h by omega), Bool.and_false]]; rfl)
        | (rw [show canL (ln_n ln) c h = true by unfold canL; rw [decide_eq_true b8, decide_eq_true (show -3 < sc_vo c h by omega)]; rfl]; rfl)
    · rw [show (-3 : Int32) = oI (-3) from rfl, oI_le (by omega) (by omega) (by omega) (by omega)] at b19
      refine ro_iconst (v := 1) dX4_canBeLowered_22 (by decide) ?_
      refine ro_goto 27 dX4_canBeLowered_23 (by decide) ?_
      refine ro_zret rfl rfl dX4_canBeLowered_27 ?_
      refine ⟨?_, rfl, rfl⟩
      first
        | (rw [show canL (ln_n ln) c h = false by unfold canL; rw [decide_eq_false b8]; rfl]; rfl)
        | (rw [show canL (ln_n ln) c h = false by unfold canL; rw [decide_eq_false (show ¬ -3 < sc_vo c h by omega), Bool.and_false]]; rfl)
        | (rw [show canL (ln_n ln) c h = true by unfold canL; rw [decide_eq_true b8, decide_eq_true (show -3 < sc_vo c h by omega)]; rfl]; rfl)
theorem ct_canR {g : GT} {M : MM} {L : LL} {s b : Nat} {ln : LN} {c : SC} {h : Nat} (hs : sc_ok s) (hL : LaneR M 16 ln) (ok : LnOK ln) (hS : SceneR M s c) (oc : ScOK (ln_n ln) b c) (hb : b < 2 ^ 30) (hh : h < 2 ^ 30) : CT g mX4_canBeRaised 1 [.ref (dq_A g s), .int (nI h)] M L (some (.int (bI (canR (ln_n ln) c h)))) M L := by
  have a1 := ok.1
  refine ct_of ok_X4_canBeRaised (lv := [some (.ref (dq_A g s)), some (.int (nI h))]) rfl (Nat.le_of_ble_eq_true rfl) ?_
  refine ro_aload_n dX4_canBeRaised_0 rfl rfl ?_
  refine gf_X4_lane hs in_X4_canBeRaised_X4 lk_X4_canBeRaised_21 dX4_canBeRaised_1 ?_
  refine ro_iload_n dX4_canBeRaised_4 rfl rfl ?_
  refine ro_callV1 ok_X2_hasHouse (ct_hasHouse ln_16 hL.1 (nI h)) (ce_X2 ln_16) rfl rfl gX4_canBeRaised_X2_hasHouse (Nat.le_of_ble_eq_true rfl) (Nat.le_of_ble_eq_true rfl) dX4_canBeRaised_5 ?_
  rw [hB_nI (by omega) (by omega)]
  refine ro_if_eq 25 dX4_canBeRaised_8 (by decide) (fun b8 => ?_) (fun b8 => ?_)
  · rw [bI_eq0, decide_eq_false_iff_not] at b8
    refine ro_iconst (v := 0) dX4_canBeRaised_25 (by decide) ?_
    refine ro_zret rfl rfl dX4_canBeRaised_26 ?_
    refine ⟨?_, rfl, rfl⟩
    first
      | (rw [show canR (ln_n ln) c h = false by unfold canR; rw [decide_eq_false b8]; rfl]; rfl)
      | (rw [show canR (ln_n ln) c h = false by unfold canR; rw [decide_eq_false (show ¬ sc_vo c h < 3 by omega), Bool.and_false]]; rfl)
      | (rw [show canR (ln_n ln) c h = true by unfold canR; rw [decide_eq_true b8, decide_eq_true (show sc_vo c h < 3 by omega)]; rfl]; rfl)
  · rw [bI_ne0, decide_eq_true_eq] at b8
    have hv := oc.2.2.2.1 h
    refine ro_aload_n dX4_canBeRaised_11 rfl rfl ?_
    refine gf_X4_voice hs in_X4_canBeRaised_X4 lk_X4_canBeRaised_18 dX4_canBeRaised_12 ?_
    refine ro_iload_n dX4_canBeRaised_15 rfl rfl ?_
    refine ro_ai (ar_s3 hs) rfl (by omega) dX4_canBeRaised_16 ?_
    rw [hS.2.2.1 h (by omega)]
    refine ro_iconst (v := 3) dX4_canBeRaised_17 (by decide) ?_
    refine ro_icmp_ge 25 dX4_canBeRaised_18 (by decide) (fun b18 => ?_) (fun b18 => ?_)
    · rw [show (3 : Int32) = oI 3 from rfl, oI_le (by omega) (by omega) (by omega) (by omega)] at b18
      refine ro_iconst (v := 0) dX4_canBeRaised_25 (by decide) ?_
      refine ro_zret rfl rfl dX4_canBeRaised_26 ?_
      refine ⟨?_, rfl, rfl⟩
      first
        | (rw [show canR (ln_n ln) c h = false by unfold canR; rw [decide_eq_false b8]; rfl]; rfl)
        | (rw [show canR (ln_n ln) c h = false by unfold canR; rw [decide_eq_false (show ¬ sc_vo c h < 3 by omega), Bool.and_false]]; rfl)
        | (rw [show canR (ln_n ln) c h = true by unfold canR; rw [decide_eq_true b8, decide_eq_true (show sc_vo c h < 3 by omega)]; rfl]; rfl)
    · rw [show (3 : Int32) = oI 3 from rfl, oI_le (by omega) (by omega) (by omega) (by omega)] at b18
      refine ro_iconst (v := 1) dX4_canBeRaised_21 (by decide) ?_
      refine ro_goto 26 dX4_canBeRaised_22 (by decide) ?_
      refine ro_zret rfl rfl dX4_canBeRaised_26 ?_
      refine ⟨?_, rfl, rfl⟩
      first
        | (rw [show canR (ln_n ln) c h = false by unfold canR; rw [decide_eq_false b8]; rfl]; rfl)
        | (rw [show canR (ln_n ln) c h = false by unfold canR; rw [decide_eq_false (show ¬ sc_vo c h < 3 by omega), Bool.and_false]]; rfl)
        | (rw [show canR (ln_n ln) c h = true by unfold canR; rw [decide_eq_true b8, decide_eq_true (show sc_vo c h < 3 by omega)]; rfl]; rfl)
theorem ct_tryL {g : GT} {M : MM} {L : LL} {s b : Nat} {ln : LN} {c : SC} {h : Nat} (hs : sc_ok s) (hL : LaneR M 16 ln) (ok : LnOK ln) (hS : SceneR M s c) (oc : ScOK (ln_n ln) b c) (hb : b < 2 ^ 30) (hh : h < 2 ^ 30) : CTQ g mX4_tryLowered 2 [.ref (dq_A g s), .int (nI h)] M L (fun v M' L' => v = some (.int (bI (canL (ln_n ln) c h))) ∧ SceneR M' s (if canL (ln_n ln) c h then lowC c h else c) ∧ OnlyB s (s + 3) M M' ∧ L' = L) := by
  have a1 := ok.1
  refine ct_of ok_X4_tryLowered (lv := [some (.ref (dq_A g s)), some (.int (nI h))]) rfl (Nat.le_of_ble_eq_true rfl) ?_
  refine ro_aload_n dX4_tryLowered_0 rfl rfl ?_
  refine ro_iload_n dX4_tryLowered_1 rfl rfl ?_
  refine ro_callV1 ok_X4_canBeLowered (ct_canL hs hL ok hS oc hb hh) (ce_X4 hs) rfl rfl gX4_tryLowered_X4_canBeLowered (Nat.le_of_ble_eq_true rfl) (Nat.le_of_ble_eq_true rfl) dX4_tryLowered_2 ?_
  refine ro_if_ne 10 dX4_tryLowered_5 (by decide) (fun b5 => ?_) (fun b5 => ?_)
  · rw [bI_ne0] at b5
    have hln : h < ln_n ln := by simp only [canL, Bool.and_eq_true, decide_eq_true_eq] at b5; exact b5.1
    refine ro_aload_n dX4_tryLowered_10 rfl rfl ?_
    refine gf_X4_voice hs in_X4_tryLowered_X4 lk_X4_tryLowered_18 dX4_tryLowered_11 ?_
    refine ro_iload_n dX4_tryLowered_14 rfl rfl ?_
    refine ro_dup2 dX4_tryLowered_15 rfl rfl ?_
    refine ro_ai (ar_s3 hs) rfl (by omega) dX4_tryLowered_16 ?_
    rw [hS.2.2.1 h (by omega)]
    refine ro_iconst (v := 1) dX4_tryLowered_17 (by decide) ?_
    refine ro_isub dX4_tryLowered_18 ?_
    rw [show (1 : Int32) = oI 1 from rfl, oI_sub]
    refine ro_as (ar_s3 hs) rfl (by omega) dX4_tryLowered_19 (fun M19 e19 => ?_)
    refine ro_iconst (v := 1) dX4_tryLowered_20 (by decide) ?_
    refine ro_zret rfl rfl dX4_tryLowered_21 ?_
    rw [b5]
    refine ⟨rfl, ?_, OnlyB.up e19 (by omega) (by omega), rfl⟩
    rw [if_pos rfl]
    refine ⟨fun j hj => ?_, fun j hj => ?_, fun j hj => ?_, ?_, ?_⟩
    · rw [e19, va_up_ne _ _ (by omega)]; exact hS.1 j hj
    · rw [e19, va_up_ne _ _ (by omega)]; exact hS.2.1 j hj
    · rw [e19, va_up_self]
      show upd (M (s + 3)) h _ j = oI (va_up (sc_vo c) h _ j)
      unfold upd va_up
      split
      · rfl
      · exact hS.2.2.1 j hj
    · rw [e19, va_up_ne _ _ (by omega)]; exact hS.2.2.2.1
    · rw [e19, va_up_ne _ _ (by omega)]; exact hS.2.2.2.2
  · rw [bI_eq0] at b5
    refine ro_iconst (v := 0) dX4_tryLowered_8 (by decide) ?_
    refine ro_zret rfl rfl dX4_tryLowered_9 ?_
    rw [b5]
    exact ⟨rfl, hS, OnlyB.rf, rfl⟩
theorem ct_tryR {g : GT} {M : MM} {L : LL} {s b : Nat} {ln : LN} {c : SC} {h : Nat} (hs : sc_ok s) (hL : LaneR M 16 ln) (ok : LnOK ln) (hS : SceneR M s c) (oc : ScOK (ln_n ln) b c) (hb : b < 2 ^ 30) (hh : h < 2 ^ 30) : CTQ g mX4_tryRaised 2 [.ref (dq_A g s), .int (nI h)] M L (fun v M' L' => v = some (.int (bI (canR (ln_n ln) c h))) ∧ SceneR M' s (if canR (ln_n ln) c h then raiC c h else c) ∧ OnlyB s (s + 3) M M' ∧ L' = L) := by
  have a1 := ok.1
  refine ct_of ok_X4_tryRaised (lv := [some (.ref (dq_A g s)), some (.int (nI h))]) rfl (Nat.le_of_ble_eq_true rfl) ?_
  refine ro_aload_n dX4_tryRaised_0 rfl rfl ?_
  refine ro_iload_n dX4_tryRaised_1 rfl rfl ?_
  refine ro_callV1 ok_X4_canBeRaised (ct_canR hs hL ok hS oc hb hh) (ce_X4 hs) rfl rfl gX4_tryRaised_X4_canBeRaised (Nat.le_of_ble_eq_true rfl) (Nat.le_of_ble_eq_true rfl) dX4_tryRaised_2 ?_
  refine ro_if_ne 10 dX4_tryRaised_5 (by decide) (fun b5 => ?_) (fun b5 => ?_)
  · rw [bI_ne0] at b5
    have hln : h < ln_n ln := by simp only [canR, Bool.and_eq_true, decide_eq_true_eq] at b5; exact b5.1
    refine ro_aload_n dX4_tryRaised_10 rfl rfl ?_
    refine gf_X4_voice hs in_X4_tryRaised_X4 lk_X4_tryRaised_18 dX4_tryRaised_11 ?_
    refine ro_iload_n dX4_tryRaised_14 rfl rfl ?_
    refine ro_dup2 dX4_tryRaised_15 rfl rfl ?_
    refine ro_ai (ar_s3 hs) rfl (by omega) dX4_tryRaised_16 ?_
    rw [hS.2.2.1 h (by omega)]
    refine ro_iconst (v := 1) dX4_tryRaised_17 (by decide) ?_
    refine ro_iadd dX4_tryRaised_18 ?_
    rw [show (1 : Int32) = oI 1 from rfl, oI_add]
    refine ro_as (ar_s3 hs) rfl (by omega) dX4_tryRaised_19 (fun M19 e19 => ?_)
    refine ro_iconst (v := 1) dX4_tryRaised_20 (by decide) ?_
    refine ro_zret rfl rfl dX4_tryRaised_21 ?_
    rw [b5]
    refine ⟨rfl, ?_, OnlyB.up e19 (by omega) (by omega), rfl⟩
    rw [if_pos rfl]
    refine ⟨fun j hj => ?_, fun j hj => ?_, fun j hj => ?_, ?_, ?_⟩
    · rw [e19, va_up_ne _ _ (by omega)]; exact hS.1 j hj
    · rw [e19, va_up_ne _ _ (by omega)]; exact hS.2.1 j hj
    · rw [e19, va_up_self]
      show upd (M (s + 3)) h _ j = oI (va_up (sc_vo c) h _ j)
      unfold upd va_up
      split
      · rfl
      · exact hS.2.2.1 j hj
    · rw [e19, va_up_ne _ _ (by omega)]; exact hS.2.2.2.1
    · rw [e19, va_up_ne _ _ (by omega)]; exact hS.2.2.2.2
  · rw [bI_eq0] at b5
    refine ro_iconst (v := 0) dX4_tryRaised_8 (by decide) ?_
    refine ro_zret rfl rfl dX4_tryRaised_9 ?_
    rw [b5]
    exact ⟨rfl, hS, OnlyB.rf, rfl⟩
theorem ct_tryC {g : GT} {M : MM} {L : LL} {s b : Nat} {ln : LN} {c : SC} {i j : Nat} (hs : sc_ok s) (hL : LaneR M 16 ln) (ok : LnOK ln) (hS : SceneR M s c) (oc : ScOK (ln_n ln) b c) (hb : b < 2 ^ 30) (hi : i < 2 ^ 30) (hj : j < 2 ^ 30) : CTQ g mX4_tryChanged 1 [.ref (dq_A g s), .int (nI i), .int (nI j)] M L (fun v M' L' => v = some (.int (bI (canC (ln_n ln) i j))) ∧ SceneR M' s (if canC (ln_n ln) i j then chgC c i j else c) ∧ OnlyB s (s + 3) M M' ∧ L' = L) := by
  have a1 := ok.1
  refine ct_of ok_X4_tryChanged (lv := [some (.ref (dq_A g s)), some (.int (nI i)), some (.int (nI j)), none, none]) rfl (Nat.le_of_ble_eq_true rfl) ?_
  refine ro_aload_n dX4_tryChanged_0 rfl rfl ?_
  refine gf_X4_lane hs in_X4_tryChanged_X4 lk_X4_tryChanged_21 dX4_tryChanged_1 ?_
  refine ro_iload_n dX4_tryChanged_4 rfl rfl ?_
  refine ro_callV1 ok_X2_hasHouse (ct_hasHouse ln_16 hL.1 (nI i)) (ce_X2 ln_16) rfl rfl gX4_tryChanged_X2_hasHouse (Nat.le_of_ble_eq_true rfl) (Nat.le_of_ble_eq_true rfl) dX4_tryChanged_5 ?_
  rw [hB_nI (by omega) (by omega)]
  refine ro_if_eq 27 dX4_tryChanged_8 (by decide) (fun b8 => ?_) (fun b8 => ?_)
  · rw [bI_eq0, decide_eq_false_iff_not] at b8
    refine ro_iconst (v := 0) dX4_tryChanged_27 (by decide) ?_
    refine ro_zret rfl rfl dX4_tryChanged_28 ?_
    rw [show canC (ln_n ln) i j = false by simp [canC, *]]
    exact ⟨rfl, hS, OnlyB.rf, rfl⟩
  · rw [bI_ne0, decide_eq_true_eq] at b8
    refine ro_aload_n dX4_tryChanged_11 rfl rfl ?_
    refine gf_X4_lane hs in_X4_tryChanged_X4 lk_X4_tryChanged_21 dX4_tryChanged_12 ?_
    refine ro_iload_n dX4_tryChanged_15 rfl rfl ?_
    refine ro_callV1 ok_X2_hasHouse (ct_hasHouse ln_16 hL.1 (nI j)) (ce_X2 ln_16) rfl rfl gX4_tryChanged_X2_hasHouse (Nat.le_of_ble_eq_true rfl) (Nat.le_of_ble_eq_true rfl) dX4_tryChanged_16 ?_
    rw [hB_nI (by omega) (by omega)]
    refine ro_if_eq 27 dX4_tryChanged_19 (by decide) (fun b19 => ?_) (fun b19 => ?_)
    · rw [bI_eq0, decide_eq_false_iff_not] at b19
      refine ro_iconst (v := 0) dX4_tryChanged_27 (by decide) ?_
      refine ro_zret rfl rfl dX4_tryChanged_28 ?_
      rw [show canC (ln_n ln) i j = false by simp [canC, *]]
      exact ⟨rfl, hS, OnlyB.rf, rfl⟩
    · rw [bI_ne0, decide_eq_true_eq] at b19
      refine ro_iload_n dX4_tryChanged_22 rfl rfl ?_
      refine ro_iload_n dX4_tryChanged_23 rfl rfl ?_
      refine ro_icmp_ne 29 dX4_tryChanged_24 (by decide) (fun b24 => ?_) (fun b24 => ?_)
      · replace b24 : ¬ i = j := fun z => b24 (by rw [z])
        refine ro_aload_n dX4_tryChanged_29 rfl rfl ?_
        refine gf_X4_hearer hs in_X4_tryChanged_X4 lk_X4_tryChanged_9 dX4_tryChanged_30 ?_
        refine ro_iload_n dX4_tryChanged_33 rfl rfl ?_
        refine ro_ai (ar_s1 hs) rfl (by omega) dX4_tryChanged_34 ?_
        refine ro_istore_n3 dX4_tryChanged_35 (Nat.le_of_ble_eq_true rfl) rfl ?_
        refine ro_aload_n dX4_tryChanged_36 rfl rfl ?_
        refine gf_X4_hearer hs in_X4_tryChanged_X4 lk_X4_tryChanged_9 dX4_tryChanged_37 ?_
        refine ro_iload_n dX4_tryChanged_40 rfl rfl ?_
        refine ro_aload_n dX4_tryChanged_41 rfl rfl ?_
        refine gf_X4_hearer hs in_X4_tryChanged_X4 lk_X4_tryChanged_9 dX4_tryChanged_42 ?_
        refine ro_iload_n dX4_tryChanged_45 rfl rfl ?_
        refine ro_ai (ar_s1 hs) (k := j) rfl (by omega) dX4_tryChanged_46 ?_
        refine ro_as (ar_s1 hs) rfl (by omega) dX4_tryChanged_47 (fun M47 e47 => ?_)
        refine ro_aload_n dX4_tryChanged_48 rfl rfl ?_
        refine gf_X4_hearer hs in_X4_tryChanged_X4 lk_X4_tryChanged_9 dX4_tryChanged_49 ?_
        refine ro_iload_n dX4_tryChanged_52 rfl rfl ?_
        refine ro_iload_n dX4_tryChanged_53 rfl rfl ?_
        refine ro_as (ar_s1 hs) rfl (by omega) dX4_tryChanged_54 (fun M54 e54 => ?_)
        refine ro_aload_n dX4_tryChanged_55 rfl rfl ?_
        refine gf_X4_knows hs in_X4_tryChanged_X4 lk_X4_tryChanged_15 dX4_tryChanged_56 ?_
        refine ro_iload_n dX4_tryChanged_59 rfl rfl ?_
        refine ro_ai (ar_s2 hs) (k := i) rfl (by omega) dX4_tryChanged_60 ?_
        refine ro_istore4 dX4_tryChanged_61 (Nat.le_of_ble_eq_true rfl) rfl ?_
        refine ro_aload_n dX4_tryChanged_63 rfl rfl ?_
        refine gf_X4_knows hs in_X4_tryChanged_X4 lk_X4_tryChanged_15 dX4_tryChanged_64 ?_
        refine ro_iload_n dX4_tryChanged_67 rfl rfl ?_
        refine ro_aload_n dX4_tryChanged_68 rfl rfl ?_
        refine gf_X4_knows hs in_X4_tryChanged_X4 lk_X4_tryChanged_15 dX4_tryChanged_69 ?_
        refine ro_iload_n dX4_tryChanged_72 rfl rfl ?_
        refine ro_ai (ar_s2 hs) (k := j) rfl (by omega) dX4_tryChanged_73 ?_
        refine ro_as (ar_s2 hs) rfl (by omega) dX4_tryChanged_74 (fun M74 e74 => ?_)
        refine ro_aload_n dX4_tryChanged_75 rfl rfl ?_
        refine gf_X4_knows hs in_X4_tryChanged_X4 lk_X4_tryChanged_15 dX4_tryChanged_76 ?_
        refine ro_iload_n dX4_tryChanged_79 rfl rfl ?_
        refine ro_iload dX4_tryChanged_80 rfl ?_
        refine ro_as (ar_s2 hs) rfl (by omega) dX4_tryChanged_82 (fun M82 e82 => ?_)
        refine ro_iconst (v := 1) dX4_tryChanged_83 (by decide) ?_
        refine ro_zret rfl rfl dX4_tryChanged_84 ?_
        rw [show canC (ln_n ln) i j = true by simp [canC, *]]
        refine ⟨rfl, ?_, (((OnlyB.up e47 (by omega) (by omega)).tr (OnlyB.up e54 (by omega) (by omega))).tr (OnlyB.up e74 (by omega) (by omega))).tr (OnlyB.up e82 (by omega) (by omega)), rfl⟩
        rw [if_pos rfl]
        have q1 : M82 (s + 1) = upd (upd (M (s + 1)) i (M (s + 1) j)) j (M (s + 1) i) := by rw [e82, va_up_ne _ _ (by omega), e74, va_up_ne _ _ (by omega), e54, va_up_self, e47, va_up_self]
        have q2 : M82 (s + 2) = upd (upd (M (s + 2)) i (M (s + 2) j)) j (M (s + 2) i) := by
          have z : M54 (s + 2) = M (s + 2) := by rw [e54, va_up_ne _ _ (by omega), e47, va_up_ne _ _ (by omega)]
          rw [e82, va_up_self, e74, va_up_self, z]
        have q3 : M82 (s + 3) = M (s + 3) := by rw [e82, va_up_ne _ _ (by omega), e74, va_up_ne _ _ (by omega), e54, va_up_ne _ _ (by omega), e47, va_up_ne _ _ (by omega)]
        have q4 : M82 s = M s := by rw [e82, va_up_ne _ _ (by omega), e74, va_up_ne _ _ (by omega), e54, va_up_ne _ _ (by omega), e47, va_up_ne _ _ (by omega)]
        refine ⟨fun k hk => ?_, fun k hk => ?_, by rw [q3]; exact hS.2.2.1, by rw [q4]; exact hS.2.2.2.1, by rw [q4]; exact hS.2.2.2.2⟩
        · rw [q1]
          show upd (upd (M (s + 1)) i (M (s + 1) j)) j (M (s + 1) i) k = nI (va_up (va_up (sc_who c) i (sc_who c j)) j (sc_who c i) k)
          unfold upd va_up
          split
          · exact hS.1 i (by omega)
          · split
            · exact hS.1 j (by omega)
            · exact hS.1 k hk
        · rw [q2]
          show upd (upd (M (s + 2)) i (M (s + 2) j)) j (M (s + 2) i) k = nI (va_up (va_up (sc_kn c) i (sc_kn c j)) j (sc_kn c i) k)
          unfold upd va_up
          split
          · exact hS.2.1 i (by omega)
          · split
            · exact hS.2.1 j (by omega)
            · exact hS.2.1 k hk
      · replace b24 : i = j := (nI_eq (by omega) (by omega)).mp b24
        refine ro_iconst (v := 0) dX4_tryChanged_27 (by decide) ?_
        refine ro_zret rfl rfl dX4_tryChanged_28 ?_
        rw [show canC (ln_n ln) i j = false by simp [canC, *]]
        exact ⟨rfl, hS, OnlyB.rf, rfl⟩
theorem ct_tryP {g : GT} {M : MM} {L : LL} {s b : Nat} {ln : LN} {c : SC} {h : Nat} (hs : sc_ok s) (hL : LaneR M 16 ln) (ok : LnOK ln) (hS : SceneR M s c) (oc : ScOK (ln_n ln) b c) (hb : b < 2 ^ 30) (hh : h < 2 ^ 30) : CTQ g mX4_tryPlate 1 [.ref (dq_A g s), .int (nI h)] M L (fun v M' L' => v = some (.int (bI (canP (ln_n ln) h))) ∧ SceneR M' s (if canP (ln_n ln) h then plaC c h else c) ∧ OnlyB s (s + 3) M M' ∧ L' = L) := by
  have a1 := ok.1
  refine ct_of ok_X4_tryPlate (lv := [some (.ref (dq_A g s)), some (.int (nI h))]) rfl (Nat.le_of_ble_eq_true rfl) ?_
  refine ro_aload_n dX4_tryPlate_0 rfl rfl ?_
  refine gf_X4_lane hs in_X4_tryPlate_X4 lk_X4_tryPlate_21 dX4_tryPlate_1 ?_
  refine ro_iload_n dX4_tryPlate_4 rfl rfl ?_
  refine ro_callV1 ok_X2_hasNext (ct_hasNext ln_16 hL.1 a1 (nI h)) (ce_X2 ln_16) rfl rfl gX4_tryPlate_X2_hasNext (Nat.le_of_ble_eq_true rfl) (Nat.le_of_ble_eq_true rfl) dX4_tryPlate_5 ?_
  rw [hB_nI (by omega) (by omega)]
  refine ro_if_ne 13 dX4_tryPlate_8 (by decide) (fun b8 => ?_) (fun b8 => ?_)
  · rw [bI_ne0, decide_eq_true_eq] at b8
    refine ro_aload_n dX4_tryPlate_13 rfl rfl ?_
    refine gf_X4_knows hs in_X4_tryPlate_X4 lk_X4_tryPlate_15 dX4_tryPlate_14 ?_
    refine ro_iload_n dX4_tryPlate_17 rfl rfl ?_
    refine ro_iconst (v := 1) dX4_tryPlate_18 (by decide) ?_
    refine ro_iadd dX4_tryPlate_19 ?_
    rw [nI_1]
    refine ro_dup2 dX4_tryPlate_20 rfl rfl ?_
    refine ro_ai (ar_s2 hs) rfl (by omega) dX4_tryPlate_21 ?_
    rw [hS.2.1 (h + 1) (by omega)]
    refine ro_aload_n dX4_tryPlate_22 rfl rfl ?_
    refine gf_X4_knows hs in_X4_tryPlate_X4 lk_X4_tryPlate_15 dX4_tryPlate_23 ?_
    refine ro_iload_n dX4_tryPlate_26 rfl rfl ?_
    refine ro_ai (ar_s2 hs) rfl (by omega) dX4_tryPlate_27 ?_
    rw [hS.2.1 h (by omega)]
    refine ro_ior dX4_tryPlate_28 ?_
    rw [fa_or]
    refine ro_as (ar_s2 hs) rfl (by omega) dX4_tryPlate_29 (fun M29 e29 => ?_)
    refine ro_iconst (v := 1) dX4_tryPlate_30 (by decide) ?_
    refine ro_zret rfl rfl dX4_tryPlate_31 ?_
    rw [show canP (ln_n ln) h = true by unfold canP; exact decide_eq_true (by omega)]
    refine ⟨rfl, ?_, OnlyB.up e29 (by omega) (by omega), rfl⟩
    rw [if_pos rfl]
    refine ⟨fun j hj => ?_, fun j hj => ?_, fun j hj => ?_, ?_, ?_⟩
    · rw [e29, va_up_ne _ _ (by omega)]; exact hS.1 j hj
    · rw [e29, va_up_self]
      show upd (M (s + 2)) (h + 1) _ j = nI (va_up (sc_kn c) (h + 1) _ j)
      unfold upd va_up
      split
      · rfl
      · exact hS.2.1 j hj
    · rw [e29, va_up_ne _ _ (by omega)]; exact hS.2.2.1 j hj
    · rw [e29, va_up_ne _ _ (by omega)]; exact hS.2.2.2.1
    · rw [e29, va_up_ne _ _ (by omega)]; exact hS.2.2.2.2
  · rw [bI_eq0, decide_eq_false_iff_not] at b8
    refine ro_iconst (v := 0) dX4_tryPlate_11 (by decide) ?_
    refine ro_zret rfl rfl dX4_tryPlate_12 ?_
    rw [show canP (ln_n ln) h = false by unfold canP; exact decide_eq_false (by omega)]
    exact ⟨rfl, hS, OnlyB.rf, rfl⟩
