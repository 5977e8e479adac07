theorem ct_bitCount {g : GT} {M : MM} {L : LL} {a : Nat} (ha : a < 64) : CT g mJ6_bitCount_0f7a4 0 [.int (nI a)] M L (some (.int (nI (pop a)))) M L := by
  refine ct_of ok_J6_bitCount_0f7a4 (lv := [some (.int (nI a))]) rfl (Nat.le_of_ble_eq_true rfl) ?_
  refine ro_iload_n dJ6_bitCount_0f7a4_0 rfl rfl ?_
  refine ro_iload_n dJ6_bitCount_0f7a4_1 rfl rfl ?_
  refine ro_iconst (v := 1) dJ6_bitCount_0f7a4_2 (by decide) ?_
  refine ro_iushr dJ6_bitCount_0f7a4_3 ?_
  refine ro_ldcw dJ6_bitCount_0f7a4_4 lk_J6_bitCount_0f7a4_265 ?_
  refine ro_iand dJ6_bitCount_0f7a4_7 ?_
  refine ro_isub dJ6_bitCount_0f7a4_8 ?_
  refine ro_istore_n0 dJ6_bitCount_0f7a4_9 (Nat.le_of_ble_eq_true rfl) rfl ?_
  refine ro_iload_n dJ6_bitCount_0f7a4_10 rfl rfl ?_
  refine ro_ldcw dJ6_bitCount_0f7a4_11 lk_J6_bitCount_0f7a4_266 ?_
  refine ro_iand dJ6_bitCount_0f7a4_14 ?_
  refine ro_iload_n dJ6_bitCount_0f7a4_15 rfl rfl ?_
  refine ro_iconst (v := 2) dJ6_bitCount_0f7a4_16 (by decide) ?_
  refine ro_iushr dJ6_bitCount_0f7a4_17 ?_
  refine ro_ldcw dJ6_bitCount_0f7a4_18 lk_J6_bitCount_0f7a4_266 ?_
  refine ro_iand dJ6_bitCount_0f7a4_21 ?_
  refine ro_iadd dJ6_bitCount_0f7a4_22 ?_
  refine ro_istore_n0 dJ6_bitCount_0f7a4_23 (Nat.le_of_ble_eq_true rfl) rfl ?_
  refine ro_iload_n dJ6_bitCount_0f7a4_24 rfl rfl ?_
  refine ro_iload_n dJ6_bitCount_0f7a4_25 rfl rfl ?_
  refine ro_iconst (v := 4) dJ6_bitCount_0f7a4_26 (by decide) ?_
  refine ro_iushr dJ6_bitCount_0f7a4_27 ?_
  refine ro_iadd dJ6_bitCount_0f7a4_28 ?_
  refine ro_ldcw dJ6_bitCount_0f7a4_29 lk_J6_bitCount_0f7a4_267 ?_
  refine ro_iand dJ6_bitCount_0f7a4_32 ?_
  refine ro_istore_n0 dJ6_bitCount_0f7a4_33 (Nat.le_of_ble_eq_true rfl) rfl ?_
  refine ro_iload_n dJ6_bitCount_0f7a4_34 rfl rfl ?_
  refine ro_iload_n dJ6_bitCount_0f7a4_35 rfl rfl ?_
  refine ro_bipush (v := 8) dJ6_bitCount_0f7a4_36 (by decide) ?_
  refine ro_iushr dJ6_bitCount_0f7a4_38 ?_
  refine ro_iadd dJ6_bitCount_0f7a4_39 ?_
  refine ro_istore_n0 dJ6_bitCount_0f7a4_40 (Nat.le_of_ble_eq_true rfl) rfl ?_
  refine ro_iload_n dJ6_bitCount_0f7a4_41 rfl rfl ?_
  refine ro_iload_n dJ6_bitCount_0f7a4_42 rfl rfl ?_
  refine ro_bipush (v := 16) dJ6_bitCount_0f7a4_43 (by decide) ?_
  refine ro_iushr dJ6_bitCount_0f7a4_45 ?_
  refine ro_iadd dJ6_bitCount_0f7a4_46 ?_
  refine ro_istore_n0 dJ6_bitCount_0f7a4_47 (Nat.le_of_ble_eq_true rfl) rfl ?_
  refine ro_iload_n dJ6_bitCount_0f7a4_48 rfl rfl ?_
  refine ro_bipush (v := 63) dJ6_bitCount_0f7a4_49 (by decide) ?_
  refine ro_iand dJ6_bitCount_0f7a4_51 ?_
  refine ro_iret rfl dJ6_bitCount_0f7a4_52 ?_
  exact ⟨congrArg (fun z => some (Value.int z)) (bc_ok a ha), rfl, rfl⟩
theorem ct_scTake {g : GT} {M : MM} {L : LL} {s f : Nat} {c : SC} (hs : sc_ok s) (hf : sc_ok f) (hd : s + 3 < f ∨ f + 3 < s) (hS : SceneR M f c) : CTQ g mX4_take 1 [.ref (dq_A g s), .ref (dq_A g f)] M L (fun v M' L' => v = none ∧ SceneR M' s c ∧ OnlyB s (s + 3) M M' ∧ L' = L) := by
  refine ct_of ok_X4_take (lv := [some (.ref (dq_A g s)), some (.ref (dq_A g f))]) rfl (Nat.le_of_ble_eq_true rfl) ?_
  refine ro_aload_n dX4_take_0 rfl rfl ?_
  refine gf_X4_hearer hf in_X4_take_X4 lk_X4_take_9 dX4_take_1 ?_
  refine ro_iconst (v := 0) dX4_take_4 (by decide) ?_
  refine ro_aload_n dX4_take_5 rfl rfl ?_
  refine gf_X4_hearer hs in_X4_take_X4 lk_X4_take_9 dX4_take_6 ?_
  refine ro_iconst (v := 0) dX4_take_9 (by decide) ?_
  refine ro_iconst (v := 5) dX4_take_10 (by decide) ?_
  refine ro_copy (ar_s1 hf) (ar_s1 hs) lk_X4_take_32 dX4_take_11 (fun M11 e11 => ?_)
  refine ro_aload_n dX4_take_14 rfl rfl ?_
  refine gf_X4_knows hf in_X4_take_X4 lk_X4_take_15 dX4_take_15 ?_
  refine ro_iconst (v := 0) dX4_take_18 (by decide) ?_
  refine ro_aload_n dX4_take_19 rfl rfl ?_
  refine gf_X4_knows hs in_X4_take_X4 lk_X4_take_15 dX4_take_20 ?_
  refine ro_iconst (v := 0) dX4_take_23 (by decide) ?_
  refine ro_iconst (v := 5) dX4_take_24 (by decide) ?_
  refine ro_copy (ar_s2 hf) (ar_s2 hs) lk_X4_take_32 dX4_take_25 (fun M25 e25 => ?_)
  refine ro_aload_n dX4_take_28 rfl rfl ?_
  refine gf_X4_voice hf in_X4_take_X4 lk_X4_take_18 dX4_take_29 ?_
  refine ro_iconst (v := 0) dX4_take_32 (by decide) ?_
  refine ro_aload_n dX4_take_33 rfl rfl ?_
  refine gf_X4_voice hs in_X4_take_X4 lk_X4_take_18 dX4_take_34 ?_
  refine ro_iconst (v := 0) dX4_take_37 (by decide) ?_
  refine ro_iconst (v := 5) dX4_take_38 (by decide) ?_
  refine ro_copy (ar_s3 hf) (ar_s3 hs) lk_X4_take_32 dX4_take_39 (fun M39 e39 => ?_)
  refine ro_aload_n dX4_take_42 rfl rfl ?_
  refine ro_aload_n dX4_take_43 rfl rfl ?_
  refine gf_X4_dry hf in_X4_take_X4 lk_X4_take_25 dX4_take_44 ?_
  refine pf_X4_dry hs in_X4_take_X4 lk_X4_take_25  dX4_take_47 (fun M47 e47 => ?_)
  refine ro_aload_n dX4_take_50 rfl rfl ?_
  refine ro_aload_n dX4_take_51 rfl rfl ?_
  refine gf_X4_hour hf in_X4_take_X4 lk_X4_take_29 dX4_take_52 ?_
  refine pf_X4_hour hs in_X4_take_X4 lk_X4_take_29  dX4_take_55 (fun M55 e55 => ?_)
  refine ro_vret rfl dX4_take_58 ?_
  have ho : OnlyB s (s + 3) M M55 := ((((OnlyB.up e11 (by omega) (by omega)).tr (OnlyB.up e25 (by omega) (by omega))).tr (OnlyB.up e39 (by omega) (by omega))).tr (OnlyB.up e47 (by omega) (by omega))).tr (OnlyB.up e55 (by omega) (by omega))
  have o39 : OnlyB s (s + 3) M M39 := ((OnlyB.up e11 (by omega) (by omega)).tr (OnlyB.up e25 (by omega) (by omega))).tr (OnlyB.up e39 (by omega) (by omega))
  have o47 : OnlyB s (s + 3) M M47 := o39.tr (OnlyB.up e47 (by omega) (by omega))
  refine ⟨rfl, ?_, ho, rfl⟩
  have q1 : M55 (s + 1) = va_cpy (M (f + 1)) (M (s + 1)) 0 0 5 := by rw [e55, va_up_ne _ _ (by omega), e47, va_up_ne _ _ (by omega), e39, va_up_ne _ _ (by omega), e25, va_up_ne _ _ (by omega), e11, va_up_self]
  have q2 : M55 (s + 2) = va_cpy (M (f + 2)) (M (s + 2)) 0 0 5 := by rw [e55, va_up_ne _ _ (by omega), e47, va_up_ne _ _ (by omega), e39, va_up_ne _ _ (by omega), e25, va_up_self, e11, va_up_ne _ _ (by omega), va_up_ne _ _ (by omega)]
  have q3 : M55 (s + 3) = va_cpy (M (f + 3)) (M (s + 3)) 0 0 5 := by rw [e55, va_up_ne _ _ (by omega), e47, va_up_ne _ _ (by omega), e39, va_up_self, e25, va_up_ne _ _ (by omega), va_up_ne _ _ (by omega), e11, va_up_ne _ _ (by omega), va_up_ne _ _ (by omega)]
  have q4 : M55 s 4 = M f 4 := by rw [e55, va_up_self, pk_un (by decide), e47, va_up_self, pk_us, o39 f (by omega)]
  have q5 : M55 s 5 = M f 5 := by rw [e55, va_up_self, pk_us, o47 f (by omega)]
  refine ⟨?_, ?_, ?_, q4.trans hS.2.2.2.1, q5.trans hS.2.2.2.2⟩
  · rw [q1]; exact fun j hj => (sb_cpy0 hj).trans (hS.1 j hj)
  · rw [q2]; exact fun j hj => (sb_cpy0 hj).trans (hS.2.1 j hj)
  · rw [q3]; exact fun j hj => (sb_cpy0 hj).trans (hS.2.2.1 j hj)
/-- a scene as told -/
def sc_0 : SC := (fun j => j, fun _ => 0, fun _ => 0, 0, 0)
theorem lp_begin {g : GT} {L : LL} {s : Nat} {M0 : MM} (hs : sc_ok s) : ∀ (k i : Nat), i + k = 5 → ∀ M : MM, OnlyB s (s + 3) M0 M → (∀ j, j < i → M (s + 1) j = nI j ∧ M (s + 2) j = 0 ∧ M (s + 3) j = 0) → JW g mX4_begin 0 (fun v M' L' => v = none ∧ SceneR M' s sc_0 ∧ OnlyB s (s + 3) M0 M' ∧ L' = L) M L 2 [some (.ref (dq_A g s)), some (.int (nI i))] [] := by
  intro k
  induction k with
  | zero =>
    intro i hi M ho hj
    refine ro_iload_n dX4_begin_2 rfl rfl ?_
    refine ro_iconst (v := 5) dX4_begin_3 (by decide) ?_
    refine ro_icmp_ge 34 dX4_begin_4 (by decide) (fun b4 => ?_) (fun b4 => ?_)
    · refine ro_aload_n dX4_begin_34 rfl rfl ?_
      refine ro_iconst (v := 0) dX4_begin_35 (by decide) ?_
      refine pf_X4_dry hs in_X4_begin_X4 lk_X4_begin_25  dX4_begin_36 (fun M36 e36 => ?_)
      refine ro_aload_n dX4_begin_39 rfl rfl ?_
      refine ro_iconst (v := 0) dX4_begin_40 (by decide) ?_
      refine pf_X4_hour hs in_X4_begin_X4 lk_X4_begin_29  dX4_begin_41 (fun M41 e41 => ?_)
      refine ro_vret rfl dX4_begin_44 ?_
      refine ⟨rfl, ⟨fun j hj5 => ?_, fun j hj5 => ?_, fun j hj5 => ?_, ?_, ?_⟩, (ho.tr (OnlyB.up e36 (by omega) (by omega))).tr (OnlyB.up e41 (by omega) (by omega)), rfl⟩
      · rw [e41, va_up_ne _ _ (by omega), e36, va_up_ne _ _ (by omega)]; exact (hj j (by omega)).1
      · rw [e41, va_up_ne _ _ (by omega), e36, va_up_ne _ _ (by omega)]; exact (hj j (by omega)).2.1
      · rw [e41, va_up_ne _ _ (by omega), e36, va_up_ne _ _ (by omega)]; exact (hj j (by omega)).2.2
      · rw [e41, va_up_self, pk_un (by decide), e36, va_up_self, pk_us]; rfl
      · rw [e41, va_up_self, pk_us]; rfl
    · exact absurd (nI_le (a := 5) (by omega) (by omega)) b4
  | succ k ih =>
    intro i hi M ho hj
    refine ro_iload_n dX4_begin_2 rfl rfl ?_
    refine ro_iconst (v := 5) dX4_begin_3 (by decide) ?_
    refine ro_icmp_ge 34 dX4_begin_4 (by decide) (fun b4 => ?_) (fun b4 => ?_)
    · exact absurd b4 (nI_ge (b := 5) (by omega) (by decide))
    · refine ro_aload_n dX4_begin_7 rfl rfl ?_
      refine gf_X4_hearer hs in_X4_begin_X4 lk_X4_begin_9 dX4_begin_8 ?_
      refine ro_iload_n dX4_begin_11 rfl rfl ?_
      refine ro_iload_n dX4_begin_12 rfl rfl ?_
      refine ro_as (ar_s1 hs) rfl (by omega) dX4_begin_13 (fun M13 e13 => ?_)
      refine ro_aload_n dX4_begin_14 rfl rfl ?_
      refine gf_X4_knows hs in_X4_begin_X4 lk_X4_begin_15 dX4_begin_15 ?_
      refine ro_iload_n dX4_begin_18 rfl rfl ?_
      refine ro_iconst (v := 0) dX4_begin_19 (by decide) ?_
      refine ro_as (ar_s2 hs) rfl (by omega) dX4_begin_20 (fun M20 e20 => ?_)
      refine ro_aload_n dX4_begin_21 rfl rfl ?_
      refine gf_X4_voice hs in_X4_begin_X4 lk_X4_begin_18 dX4_begin_22 ?_
      refine ro_iload_n dX4_begin_25 rfl rfl ?_
      refine ro_iconst (v := 0) dX4_begin_26 (by decide) ?_
      refine ro_as (ar_s3 hs) rfl (by omega) dX4_begin_27 (fun M27 e27 => ?_)
      refine ro_iincP1 dX4_begin_28 (Nat.le_of_ble_eq_true rfl) rfl ?_
      refine ro_goto 2 dX4_begin_31 (by decide) ?_
      rw [nI_1]
      refine ih (i + 1) (by omega) M27 (((ho.tr (OnlyB.up e13 (by omega) (by omega))).tr (OnlyB.up e20 (by omega) (by omega))).tr (OnlyB.up e27 (by omega) (by omega))) ?_
      have q1 : M27 (s + 1) = upd (M (s + 1)) i (nI i) := by rw [e27, va_up_ne _ _ (by omega), e20, va_up_ne _ _ (by omega), e13, va_up_self]
      have q2 : M27 (s + 2) = upd (M (s + 2)) i 0 := by rw [e27, va_up_ne _ _ (by omega), e20, va_up_self, e13, va_up_ne _ _ (by omega)]
      have q3 : M27 (s + 3) = upd (M (s + 3)) i 0 := by rw [e27, va_up_self, e20, va_up_ne _ _ (by omega), e13, va_up_ne _ _ (by omega)]
      intro j hj2
      rw [q1, q2, q3]
      by_cases h : j = i
      · subst h; exact ⟨pk_us, pk_us, pk_us⟩
      · rw [pk_un h, pk_un h, pk_un h]; exact hj j (by omega)
theorem ct_begin {g : GT} {M : MM} {L : LL} {s : Nat} (hs : sc_ok s) : CTQ g mX4_begin 0 [.ref (dq_A g s)] M L (fun v M' L' => v = none ∧ SceneR M' s sc_0 ∧ OnlyB s (s + 3) M M' ∧ L' = L) := by
  refine ct_of ok_X4_begin (lv := [some (.ref (dq_A g s)), none]) rfl (Nat.le_of_ble_eq_true rfl) ?_
  refine ro_iconst (v := 0) dX4_begin_0 (by decide) ?_
  refine ro_istore_n1 dX4_begin_1 (Nat.le_of_ble_eq_true rfl) rfl ?_
  exact lp_begin hs 5 0 rfl M OnlyB.rf (fun j hj => absurd hj (Nat.not_lt_zero j))
theorem ct_kindAt {g : GT} {M : MM} {L : LL} {s b : Nat} {ln : LN} {c : SC} {h : Nat} (hs : sc_ok s) (hL : LaneR M 16 ln) (ok : LnOK ln) (hS : SceneR M s c) (oc : ScOK (ln_n ln) b c) (hb : b < 2 ^ 30) (hh : h < ln_n ln) : CT g mX4_kindAt 0 [.ref (dq_A g s), .int (nI h)] M L (some (.int (nI (ln_kind ln (sc_who c h))))) M L := by
  have a1 := ok.1
  have a2 := oc.1 h hh
  refine ct_of ok_X4_kindAt (lv := [some (.ref (dq_A g s)), some (.int (nI h))]) rfl (Nat.le_of_ble_eq_true rfl) ?_
  refine ro_aload_n dX4_kindAt_0 rfl rfl ?_
  refine gf_X4_lane hs in_X4_kindAt_X4 lk_X4_kindAt_21 dX4_kindAt_1 ?_
  refine gf_X2_kind ln_16 in_X4_kindAt_X2 lk_X4_kindAt_38 dX4_kindAt_4 ?_
  refine ro_aload_n dX4_kindAt_7 rfl rfl ?_
  refine gf_X4_hearer hs in_X4_kindAt_X4 lk_X4_kindAt_9 dX4_kindAt_8 ?_
  refine ro_iload_n dX4_kindAt_11 rfl rfl ?_
  refine ro_ai (ar_s1 hs) rfl (by omega) dX4_kindAt_12 ?_
  rw [hS.1 h (by omega)]
  refine ro_ai (ar_l2 ln_16) rfl (by omega) dX4_kindAt_13 ?_
  rw [hL.2.2.2.2.1 _ a2]
  refine ro_iret rfl dX4_kindAt_14 ?_
  exact ⟨rfl, rfl, rfl⟩
theorem ct_knowsThing {g : GT} {M : MM} {L : LL} {s h t : Nat} {c : SC} (hs : sc_ok s) (hS : SceneR M s c) (hk : ∀ j, sc_kn c j < 64) (hh : h < 5) (ht : t < 6) : CT g mX4_knowsThing 0 [.ref (dq_A g s), .int (nI h), .int (nI t)] M L (some (.int (bI ((sc_kn c h).testBit t)))) M L := by
  have a1 := hk h
  refine ct_of ok_X4_knowsThing (lv := [some (.ref (dq_A g s)), some (.int (nI h)), some (.int (nI t))]) rfl (Nat.le_of_ble_eq_true rfl) ?_
  refine ro_aload_n dX4_knowsThing_0 rfl rfl ?_
  refine gf_X4_knows hs in_X4_knowsThing_X4 lk_X4_knowsThing_15 dX4_knowsThing_1 ?_
  refine ro_iload_n dX4_knowsThing_4 rfl rfl ?_
  refine ro_ai (ar_s2 hs) rfl (by omega) dX4_knowsThing_5 ?_
  rw [hS.2.1 h (by omega)]
  refine ro_iload_n dX4_knowsThing_6 rfl rfl ?_
  refine ro_ishr dX4_knowsThing_7 ?_
  refine ro_iconst (v := 1) dX4_knowsThing_8 (by decide) ?_
  refine ro_iand dX4_knowsThing_9 ?_
  rw [bt_at (by omega) (by omega)]
  refine ro_iconst (v := 1) dX4_knowsThing_10 (by decide) ?_
  refine ro_icmp_ne 18 dX4_knowsThing_11 (by decide) (fun h11 => ?_) (fun h11 => ?_)
  · rw [bI_eq1] at h11
    refine ro_iconst (v := 0) dX4_knowsThing_18 (by decide) ?_
    refine ro_zret rfl rfl dX4_knowsThing_19 ?_
    exact ⟨by simp [bI, h11], rfl, rfl⟩
  · rw [bI_eq1] at h11
    refine ro_iconst (v := 1) dX4_knowsThing_14 (by decide) ?_
    refine ro_goto 19 dX4_knowsThing_15 (by decide) ?_
    refine ro_zret rfl rfl dX4_knowsThing_19 ?_
    exact ⟨by simp [bI, h11], rfl, rfl⟩
theorem ct_areStrayed {g : GT} {M : MM} {L : LL} {s dy : Nat} (hs : sc_ok s) (hd : M s 4 = nI dy) (h9 : dy ≤ 9) : CT g mX4_areStrayed 0 [.ref (dq_A g s)] M L (some (.int (bI (decide (3 ≤ dy))))) M L := by
  refine ct_of ok_X4_areStrayed (lv := [some (.ref (dq_A g s))]) rfl (Nat.le_of_ble_eq_true rfl) ?_
  refine ro_aload_n dX4_areStrayed_0 rfl rfl ?_
  refine gf_X4_dry hs in_X4_areStrayed_X4 lk_X4_areStrayed_25 dX4_areStrayed_1 ?_
  rw [hd]
  refine ro_iconst (v := 3) dX4_areStrayed_4 (by decide) ?_
  refine ro_icmp_lt 12 dX4_areStrayed_5 (by decide) (fun h5 => ?_) (fun h5 => ?_)
  · rw [show (3 : Int32) = nI 3 from rfl, nI_ltI (by omega) (by omega)] at h5
    refine ro_iconst (v := 0) dX4_areStrayed_12 (by decide) ?_
    refine ro_zret rfl rfl dX4_areStrayed_13 ?_
    exact ⟨by first | (rw [decide_eq_false (by omega)]; rfl) | (rw [decide_eq_true (by omega)]; rfl), rfl, rfl⟩
  · rw [show (3 : Int32) = nI 3 from rfl, nI_ltI (by omega) (by omega)] at h5
    refine ro_iconst (v := 1) dX4_areStrayed_8 (by decide) ?_
    refine ro_goto 13 dX4_areStrayed_9 (by decide) ?_
    refine ro_zret rfl rfl dX4_areStrayed_13 ?_
    exact ⟨by first | (rw [decide_eq_false (by omega)]; rfl) | (rw [decide_eq_true (by omega)]; rfl), rfl, rfl⟩
theorem lp_knownBy {g : GT} {M : MM} {L : LL} {s b : Nat} {ln : LN} {c : SC} {m : Nat} (hs : sc_ok s) (hL : LaneR M 16 ln) (ok : LnOK ln) (hS : SceneR M s c) (oc : ScOK (ln_n ln) b c) (hb : b < 2 ^ 30) (hm : m < 2 ^ 31) : ∀ (k i : Nat), i + k = ln_n ln → JW g mX4_knownBy 0 (Rt (some (.int (nI (orB m.testBit (sc_kn c) (ln_n ln))))) M L) M L 4 [some (.ref (dq_A g s)), some (.int (nI m)), some (.int (nI (orB m.testBit (sc_kn c) i))), some (.int (nI i))] [] := by
  have a1 := ok.1
  have hn := hL.1
  intro k
  induction k with
  | zero =>
    intro i hi
    refine ro_iload_n dX4_knownBy_4 rfl rfl ?_
    refine ro_aload_n dX4_knownBy_5 rfl rfl ?_
    refine gf_X4_lane hs in_X4_knownBy_X4 lk_X4_knownBy_21 dX4_knownBy_6 ?_
    refine gf_X2_houses ln_16 in_X4_knownBy_X2 lk_X4_knownBy_43 dX4_knownBy_9 ?_
    rw [hn]
    refine ro_icmp_ge 39 dX4_knownBy_12 (by decide) (fun b12 => ?_) (fun b12 => ?_)
    · refine ro_iload_n dX4_knownBy_39 rfl rfl ?_
      refine ro_iret rfl dX4_knownBy_40 ?_
      exact ⟨by rw [show i = ln_n ln by omega], rfl, rfl⟩
    · exact absurd (nI_le (by omega) (by omega)) b12
  | succ k ih =>
    intro i hi
    refine ro_iload_n dX4_knownBy_4 rfl rfl ?_
    refine ro_aload_n dX4_knownBy_5 rfl rfl ?_
    refine gf_X4_lane hs in_X4_knownBy_X4 lk_X4_knownBy_21 dX4_knownBy_6 ?_
    refine gf_X2_houses ln_16 in_X4_knownBy_X2 lk_X4_knownBy_43 dX4_knownBy_9 ?_
    rw [hn]
    refine ro_icmp_ge 39 dX4_knownBy_12 (by decide) (fun b12 => ?_) (fun b12 => ?_)
    · exact absurd b12 (nI_ge (by omega) (by omega))
    · refine ro_iload_n dX4_knownBy_15 rfl rfl ?_
      refine ro_iload_n dX4_knownBy_16 rfl rfl ?_
      refine ro_ishr dX4_knownBy_17 ?_
      refine ro_iconst (v := 1) dX4_knownBy_18 (by decide) ?_
      refine ro_iand dX4_knownBy_19 ?_
      rw [bt_at (by omega) (by omega)]
      refine ro_iconst (v := 1) dX4_knownBy_20 (by decide) ?_
      refine ro_icmp_ne 33 dX4_knownBy_21 (by decide) (fun b21 => ?_) (fun b21 => ?_)
      · rw [bI_eq1] at b21
        refine ro_iincP3 dX4_knownBy_33 (Nat.le_of_ble_eq_true rfl) rfl ?_
        refine ro_goto 4 dX4_knownBy_36 (by decide) ?_
        rw [nI_1]
        have e : orB m.testBit (sc_kn c) (i + 1) = orB m.testBit (sc_kn c) i ||| (if m.testBit i then sc_kn c i else 0) := rfl
        first
          | (rw [if_pos b21] at e; rw [← e]; exact ih (i + 1) (by omega))
          | (rw [if_neg b21, Nat.or_zero] at e; rw [← e]; exact ih (i + 1) (by omega))
      · rw [bI_eq1] at b21
        refine ro_iload_n dX4_knownBy_24 rfl rfl ?_
        refine ro_aload_n dX4_knownBy_25 rfl rfl ?_
        refine gf_X4_knows hs in_X4_knownBy_X4 lk_X4_knownBy_15 dX4_knownBy_26 ?_
        refine ro_iload_n dX4_knownBy_29 rfl rfl ?_
        refine ro_ai (ar_s2 hs) rfl (by omega) dX4_knownBy_30 ?_
        rw [hS.2.1 i (by omega)]
        refine ro_ior dX4_knownBy_31 ?_
        rw [fa_or]
        refine ro_istore_n2 dX4_knownBy_32 (Nat.le_of_ble_eq_true rfl) rfl ?_
        refine ro_iincP3 dX4_knownBy_33 (Nat.le_of_ble_eq_true rfl) rfl ?_
        refine ro_goto 4 dX4_knownBy_36 (by decide) ?_
        rw [nI_1]
        have e : orB m.testBit (sc_kn c) (i + 1) = orB m.testBit (sc_kn c) i ||| (if m.testBit i then sc_kn c i else 0) := rfl
        first
          | (rw [if_pos b21] at e; rw [← e]; exact ih (i + 1) (by omega))
          | (rw [if_neg b21, Nat.or_zero] at e; rw [← e]; exact ih (i + 1) (by omega))
theorem ct_knownBy {g : GT} {M : MM} {L : LL} {s b : Nat} {ln : LN} {c : SC} {m : Nat} (hs : sc_ok s) (hL : LaneR M 16 ln) (ok : LnOK ln) (hS : SceneR M s c) (oc : ScOK (ln_n ln) b c) (hb : b < 2 ^ 30) (hm : m < 2 ^ 31) : CT g mX4_knownBy 0 [.ref (dq_A g s), .int (nI m)] M L (some (.int (nI (orB m.testBit (sc_kn c) (ln_n ln))))) M L := by
  refine ct_of ok_X4_knownBy (lv := [some (.ref (dq_A g s)), some (.int (nI m)), none, none]) rfl (Nat.le_of_ble_eq_true rfl) ?_
  refine ro_iconst (v := 0) dX4_knownBy_0 (by decide) ?_
  refine ro_istore_n2 dX4_knownBy_1 (Nat.le_of_ble_eq_true rfl) rfl ?_
  refine ro_iconst (v := 0) dX4_knownBy_2 (by decide) ?_
  refine ro_istore_n3 dX4_knownBy_3 (Nat.le_of_ble_eq_true rfl) rfl ?_
  exact lp_knownBy hs hL ok hS oc hb hm (ln_n ln) 0 (by omega)
theorem lp_knowersOf {g : GT} {M : MM} {L : LL} {s b : Nat} {ln : LN} {c : SC} {t : Nat} (hs : sc_ok s) (hL : LaneR M 16 ln) (ok : LnOK ln) (hS : SceneR M s c) (oc : ScOK (ln_n ln) b c) (hb : b < 2 ^ 30) (ht : t < 6) : ∀ (k i : Nat), i + k = ln_n ln → JW g mX4_knowersOf 0 (Rt (some (.int (nI (ctB (fun j => (sc_kn c j).testBit t) (ln_n ln))))) M L) M L 4 [some (.ref (dq_A g s)), some (.int (nI t)), some (.int (nI (ctB (fun j => (sc_kn c j).testBit t) i))), some (.int (nI i))] [] := by
  have a1 := ok.1
  have hn := hL.1
  intro k
  induction k with
  | zero =>
    intro i hi
    refine ro_iload_n dX4_knowersOf_4 rfl rfl ?_
    refine ro_aload_n dX4_knowersOf_5 rfl rfl ?_
    refine gf_X4_lane hs in_X4_knowersOf_X4 lk_X4_knowersOf_21 dX4_knowersOf_6 ?_
    refine gf_X2_houses ln_16 in_X4_knowersOf_X2 lk_X4_knowersOf_43 dX4_knowersOf_9 ?_
    rw [hn]
    refine ro_icmp_ge 34 dX4_knowersOf_12 (by decide) (fun b12 => ?_) (fun b12 => ?_)
    · refine ro_iload_n dX4_knowersOf_34 rfl rfl ?_
      refine ro_iret rfl dX4_knowersOf_35 ?_
      exact ⟨by rw [show i = ln_n ln by omega], rfl, rfl⟩
    · exact absurd (nI_le (by omega) (by omega)) b12
  | succ k ih =>
    intro i hi
    refine ro_iload_n dX4_knowersOf_4 rfl rfl ?_
    refine ro_aload_n dX4_knowersOf_5 rfl rfl ?_
    refine gf_X4_lane hs in_X4_knowersOf_X4 lk_X4_knowersOf_21 dX4_knowersOf_6 ?_
    refine gf_X2_houses ln_16 in_X4_knowersOf_X2 lk_X4_knowersOf_43 dX4_knowersOf_9 ?_
    rw [hn]
    refine ro_icmp_ge 34 dX4_knowersOf_12 (by decide) (fun b12 => ?_) (fun b12 => ?_)
    · exact absurd b12 (nI_ge (by omega) (by omega))
    · refine ro_iload_n dX4_knowersOf_15 rfl rfl ?_
      refine ro_aload_n dX4_knowersOf_16 rfl rfl ?_
      refine gf_X4_knows hs in_X4_knowersOf_X4 lk_X4_knowersOf_15 dX4_knowersOf_17 ?_
      refine ro_iload_n dX4_knowersOf_20 rfl rfl ?_
      refine ro_ai (ar_s2 hs) rfl (by omega) dX4_knowersOf_21 ?_
      have q := oc.2.2.1 i
      rw [hS.2.1 i (by omega)]
      refine ro_iload_n dX4_knowersOf_22 rfl rfl ?_
      refine ro_ishr dX4_knowersOf_23 ?_
      refine ro_iconst (v := 1) dX4_knowersOf_24 (by decide) ?_
      refine ro_iand dX4_knowersOf_25 ?_
      rw [bt_at (by omega) (by omega)]
      refine ro_iadd dX4_knowersOf_26 ?_
      refine ro_istore_n2 dX4_knowersOf_27 (Nat.le_of_ble_eq_true rfl) rfl ?_
      refine ro_iincP3 dX4_knowersOf_28 (Nat.le_of_ble_eq_true rfl) rfl ?_
      refine ro_goto 4 dX4_knowersOf_31 (by decide) ?_
      rw [nI_1, show nI (ctB (fun j => (sc_kn c j).testBit t) i) + bI ((sc_kn c i).testBit t) = nI (ctB (fun j => (sc_kn c j).testBit t) (i + 1)) from by rw [ctB]; cases (sc_kn c i).testBit t <;> first | exact nI_add _ 1 | exact nI_add _ 0]
      exact ih (i + 1) (by omega)
theorem ct_knowersOf {g : GT} {M : MM} {L : LL} {s b : Nat} {ln : LN} {c : SC} {t : Nat} (hs : sc_ok s) (hL : LaneR M 16 ln) (ok : LnOK ln) (hS : SceneR M s c) (oc : ScOK (ln_n ln) b c) (hb : b < 2 ^ 30) (ht : t < 6) : CT g mX4_knowersOf 0 [.ref (dq_A g s), .int (nI t)] M L (some (.int (nI (ctB (fun j => (sc_kn c j).testBit t) (ln_n ln))))) M L := by
  refine ct_of ok_X4_knowersOf (lv := [some (.ref (dq_A g s)), some (.int (nI t)), none, none]) rfl (Nat.le_of_ble_eq_true rfl) ?_
  refine ro_iconst (v := 0) dX4_knowersOf_0 (by decide) ?_
  refine ro_istore_n2 dX4_knowersOf_1 (Nat.le_of_ble_eq_true rfl) rfl ?_
  refine ro_iconst (v := 0) dX4_knowersOf_2 (by decide) ?_
  refine ro_istore_n3 dX4_knowersOf_3 (Nat.le_of_ble_eq_true rfl) rfl ?_
  exact lp_knowersOf hs hL ok hS oc hb ht (ln_n ln) 0 (by omega)
theorem lp_allKnown {g : GT} {M : MM} {L : LL} {s b : Nat} {ln : LN} {c : SC} (hs : sc_ok s) (hL : LaneR M 16 ln) (ok : LnOK ln) (hS : SceneR M s c) (oc : ScOK (ln_n ln) b c) (hb : b < 2 ^ 30) : ∀ (k i : Nat), i + k = ln_n ln → JW g mX4_allKnown 1 (Rt (some (.int (nI (smB (fun j => pop (sc_kn c j)) (ln_n ln))))) M L) M L 4 [some (.ref (dq_A g s)), some (.int (nI (smB (fun j => pop (sc_kn c j)) i))), some (.int (nI i))] [] := by
  have a1 := ok.1
  have hn := hL.1
  intro k
  induction k with
  | zero =>
    intro i hi
    refine ro_iload_n dX4_allKnown_4 rfl rfl ?_
    refine ro_aload_n dX4_allKnown_5 rfl rfl ?_
    refine gf_X4_lane hs in_X4_allKnown_X4 lk_X4_allKnown_21 dX4_allKnown_6 ?_
    refine gf_X2_houses ln_16 in_X4_allKnown_X2 lk_X4_allKnown_43 dX4_allKnown_9 ?_
    rw [hn]
    refine ro_icmp_ge 33 dX4_allKnown_12 (by decide) (fun b12 => ?_) (fun b12 => ?_)
    · refine ro_iload_n dX4_allKnown_33 rfl rfl ?_
      refine ro_iret rfl dX4_allKnown_34 ?_
      exact ⟨by rw [show i = ln_n ln by omega], rfl, rfl⟩
    · exact absurd (nI_le (by omega) (by omega)) b12
  | succ k ih =>
    intro i hi
    refine ro_iload_n dX4_allKnown_4 rfl rfl ?_
    refine ro_aload_n dX4_allKnown_5 rfl rfl ?_
    refine gf_X4_lane hs in_X4_allKnown_X4 lk_X4_allKnown_21 dX4_allKnown_6 ?_
    refine gf_X2_houses ln_16 in_X4_allKnown_X2 lk_X4_allKnown_43 dX4_allKnown_9 ?_
    rw [hn]
    refine ro_icmp_ge 33 dX4_allKnown_12 (by decide) (fun b12 => ?_) (fun b12 => ?_)
    · exact absurd b12 (nI_ge (by omega) (by omega))
    · refine ro_iload_n dX4_allKnown_15 rfl rfl ?_
      refine ro_aload_n dX4_allKnown_16 rfl rfl ?_
      refine gf_X4_knows hs in_X4_allKnown_X4 lk_X4_allKnown_15 dX4_allKnown_17 ?_
      refine ro_iload_n dX4_allKnown_20 rfl rfl ?_
      refine ro_ai (ar_s2 hs) rfl (by omega) dX4_allKnown_21 ?_
      rw [hS.2.1 i (by omega)]
      refine ro_callS1 ok_J6_bitCount_0f7a4 (ct_bitCount (oc.2.2.1 i)) gX4_allKnown_J6_bitCount_0f7a4 (Nat.le_of_ble_eq_true rfl) (Nat.le_of_ble_eq_true rfl) dX4_allKnown_22 ?_
      refine ro_iadd dX4_allKnown_25 ?_
      rw [nI_add]
      refine ro_istore_n1 dX4_allKnown_26 (Nat.le_of_ble_eq_true rfl) rfl ?_
      refine ro_iincP2 dX4_allKnown_27 (Nat.le_of_ble_eq_true rfl) rfl ?_
      refine ro_goto 4 dX4_allKnown_30 (by decide) ?_
      rw [nI_1]
      exact ih (i + 1) (by omega)
theorem ct_allKnown {g : GT} {M : MM} {L : LL} {s b : Nat} {ln : LN} {c : SC} (hs : sc_ok s) (hL : LaneR M 16 ln) (ok : LnOK ln) (hS : SceneR M s c) (oc : ScOK (ln_n ln) b c) (hb : b < 2 ^ 30) : CT g mX4_allKnown 1 [.ref (dq_A g s)] M L (some (.int (nI (smB (fun j => pop (sc_kn c j)) (ln_n ln))))) M L := by
  refine ct_of ok_X4_allKnown (lv := [some (.ref (dq_A g s)), none, none]) rfl (Nat.le_of_ble_eq_true rfl) ?_
  refine ro_iconst (v := 0) dX4_allKnown_0 (by decide) ?_
  refine ro_istore_n1 dX4_allKnown_1 (Nat.le_of_ble_eq_true rfl) rfl ?_
  refine ro_iconst (v := 0) dX4_allKnown_2 (by decide) ?_
  refine ro_istore_n2 dX4_allKnown_3 (Nat.le_of_ble_eq_true rfl) rfl ?_
  exact lp_allKnown hs hL ok hS oc hb (ln_n ln) 0 (by omega)
