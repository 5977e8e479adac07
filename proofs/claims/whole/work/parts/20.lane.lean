theorem ct_hasHouse {g : GT} {M : MM} {L : LL} {l n : Nat} (hl : ln_ok l) (hn : M l 0 = nI n) (x : Int32) : CT g mX2_hasHouse 0 [.ref (dq_A g l), .int x] M L (some (.int (bI (hB n x)))) M L := by
  refine ct_of ok_X2_hasHouse (lv := [some (.ref (dq_A g l)), some (.int x)]) rfl (Nat.le_of_ble_eq_true rfl) ?_
  refine ro_iload_n dX2_hasHouse_0 rfl rfl ?_
  refine ro_if_lt 16 dX2_hasHouse_1 (by decide) (fun h1 => ?_) (fun h1 => ?_)
  · refine ro_iconst (v := 0) dX2_hasHouse_16 (by decide) ?_
    refine ro_zret rfl rfl dX2_hasHouse_17 ?_
    exact ⟨by simp [hB, bI, *], rfl, rfl⟩
  · refine ro_iload_n dX2_hasHouse_4 rfl rfl ?_
    refine ro_aload_n dX2_hasHouse_5 rfl rfl ?_
    refine gf_X2_houses hl in_X2_hasHouse_X2 lk_X2_hasHouse_30 dX2_hasHouse_6 ?_
    rw [hn]
    refine ro_icmp_ge 16 dX2_hasHouse_9 (by decide) (fun h9 => ?_) (fun h9 => ?_)
    · refine ro_iconst (v := 0) dX2_hasHouse_16 (by decide) ?_
      refine ro_zret rfl rfl dX2_hasHouse_17 ?_
      exact ⟨by simp [hB, bI, *], rfl, rfl⟩
    · refine ro_iconst (v := 1) dX2_hasHouse_12 (by decide) ?_
      refine ro_goto 17 dX2_hasHouse_13 (by decide) ?_
      refine ro_zret rfl rfl dX2_hasHouse_17 ?_
      exact ⟨by simp [hB, bI, *], rfl, rfl⟩
theorem ct_hasSaying {g : GT} {M : MM} {L : LL} {l n : Nat} (hl : ln_ok l) (hn : M l 1 = nI n) (x : Int32) : CT g mX2_hasSaying 0 [.ref (dq_A g l), .int x] M L (some (.int (bI (hB n x)))) M L := by
  refine ct_of ok_X2_hasSaying (lv := [some (.ref (dq_A g l)), some (.int x)]) rfl (Nat.le_of_ble_eq_true rfl) ?_
  refine ro_iload_n dX2_hasSaying_0 rfl rfl ?_
  refine ro_if_lt 16 dX2_hasSaying_1 (by decide) (fun h1 => ?_) (fun h1 => ?_)
  · refine ro_iconst (v := 0) dX2_hasSaying_16 (by decide) ?_
    refine ro_zret rfl rfl dX2_hasSaying_17 ?_
    exact ⟨by simp [hB, bI, *], rfl, rfl⟩
  · refine ro_iload_n dX2_hasSaying_4 rfl rfl ?_
    refine ro_aload_n dX2_hasSaying_5 rfl rfl ?_
    refine gf_X2_sayings hl in_X2_hasSaying_X2 lk_X2_hasSaying_34 dX2_hasSaying_6 ?_
    rw [hn]
    refine ro_icmp_ge 16 dX2_hasSaying_9 (by decide) (fun h9 => ?_) (fun h9 => ?_)
    · refine ro_iconst (v := 0) dX2_hasSaying_16 (by decide) ?_
      refine ro_zret rfl rfl dX2_hasSaying_17 ?_
      exact ⟨by simp [hB, bI, *], rfl, rfl⟩
    · refine ro_iconst (v := 1) dX2_hasSaying_12 (by decide) ?_
      refine ro_goto 17 dX2_hasSaying_13 (by decide) ?_
      refine ro_zret rfl rfl dX2_hasSaying_17 ?_
      exact ⟨by simp [hB, bI, *], rfl, rfl⟩
theorem hB_pred {n : Nat} {x : Int32} (hn : n ≤ 5) : hB (n - 1) x = decide (¬ x < 0 ∧ ¬ nI n - 1 ≤ x) := by
  unfold hB
  rcases Nat.eq_zero_or_pos n with q | q
  · subst q
    have h1 : (nI 0 - 1 : Int32) = -1 := by decide
    rw [h1]
    by_cases hx : x < 0
    · simp [hx]
    · obtain ⟨j, hj, rfl⟩ := nI_of hx
      have h2 : nI (0 - 1) ≤ nI j := nI_le (by omega) hj
      have h3 : (-1 : Int32) ≤ nI j := by rw [Int32.le_iff_toInt_le, nI_toInt hj]; show (-1 : Int) ≤ _; omega
      simp [h2, h3]
  · obtain ⟨k, rfl⟩ : ∃ k, n = k + 1 := ⟨n - 1, by omega⟩
    rw [nI_pred, Nat.add_sub_cancel]
theorem ct_hasNext {g : GT} {M : MM} {L : LL} {l n : Nat} (hl : ln_ok l) (hn : M l 0 = nI n) (h5 : n ≤ 5) (x : Int32) : CT g mX2_hasNext 0 [.ref (dq_A g l), .int x] M L (some (.int (bI (hB (n - 1) x)))) M L := by
  refine ct_of ok_X2_hasNext (lv := [some (.ref (dq_A g l)), some (.int x)]) rfl (Nat.le_of_ble_eq_true rfl) ?_
  refine ro_iload_n dX2_hasNext_0 rfl rfl ?_
  refine ro_if_lt 18 dX2_hasNext_1 (by decide) (fun h1 => ?_) (fun h1 => ?_)
  · refine ro_iconst (v := 0) dX2_hasNext_18 (by decide) ?_
    refine ro_zret rfl rfl dX2_hasNext_19 ?_
    exact ⟨by rw [hB_pred h5]; simp [bI, *], rfl, rfl⟩
  · refine ro_iload_n dX2_hasNext_4 rfl rfl ?_
    refine ro_aload_n dX2_hasNext_5 rfl rfl ?_
    refine gf_X2_houses hl in_X2_hasNext_X2 lk_X2_hasNext_30 dX2_hasNext_6 ?_
    rw [hn]
    refine ro_iconst (v := 1) dX2_hasNext_9 (by decide) ?_
    refine ro_isub dX2_hasNext_10 ?_
    refine ro_icmp_ge 18 dX2_hasNext_11 (by decide) (fun h11 => ?_) (fun h11 => ?_)
    · refine ro_iconst (v := 0) dX2_hasNext_18 (by decide) ?_
      refine ro_zret rfl rfl dX2_hasNext_19 ?_
      exact ⟨by rw [hB_pred h5]; simp [bI, *], rfl, rfl⟩
    · refine ro_iconst (v := 1) dX2_hasNext_14 (by decide) ?_
      refine ro_goto 19 dX2_hasNext_15 (by decide) ?_
      refine ro_zret rfl rfl dX2_hasNext_19 ?_
      exact ⟨by rw [hB_pred h5]; simp [bI, *], rfl, rfl⟩
theorem sh_1 : ∀ n : Nat, n < 31 → (1 : Int32) <<< (nI n &&& 31) = nI (2 ^ n) := by decide +kernel
theorem sh_1m : ∀ n : Nat, n < 31 → (1 : Int32) <<< (nI n &&& 31) - 1 = nI (2 ^ n - 1) := by decide +kernel
theorem ct_allHouses {g : GT} {M : MM} {L : LL} {l n : Nat} (hl : ln_ok l) (hn : M l 0 = nI n) (h5 : n ≤ 5) : CT g mX2_allHouses 0 [.ref (dq_A g l)] M L (some (.int (nI (2 ^ n - 1)))) M L := by
  refine ct_of ok_X2_allHouses (lv := [some (.ref (dq_A g l))]) rfl (Nat.le_of_ble_eq_true rfl) ?_
  refine ro_iconst (v := 1) dX2_allHouses_0 (by decide) ?_
  refine ro_aload_n dX2_allHouses_1 rfl rfl ?_
  refine gf_X2_houses hl in_X2_allHouses_X2 lk_X2_allHouses_30 dX2_allHouses_2 ?_
  refine ro_ishl dX2_allHouses_5 ?_
  refine ro_iconst (v := 1) dX2_allHouses_6 (by decide) ?_
  refine ro_isub dX2_allHouses_7 ?_
  refine ro_iret rfl dX2_allHouses_8 ?_
  exact ⟨by rw [hn, sh_1m n (by omega)], rfl, rfl⟩
theorem ct_floorMod {g : GT} {M : MM} {L : LL} {h n : Nat} (hh : h < 2 ^ 31) (h0 : 0 < n) (h1 : n < 2 ^ 31) : CT g mJ9_floorMod_7cf53 0 [.int (nI h), .int (nI n)] M L (some (.int (nI (h % n)))) M L := by
  refine ct_of ok_J9_floorMod_7cf53 (lv := [some (.int (nI h)), some (.int (nI n)), none]) rfl (Nat.le_of_ble_eq_true rfl) ?_
  refine ro_iload_n dJ9_floorMod_7cf53_0 rfl rfl ?_
  refine ro_iload_n dJ9_floorMod_7cf53_1 rfl rfl ?_
  refine ro_irem dJ9_floorMod_7cf53_2 (nI_ne0 h0 h1) ?_
  rw [pk_rem hh h0 h1]
  refine ro_istore_n2 dJ9_floorMod_7cf53_3 (Nat.le_of_ble_eq_true rfl) rfl ?_
  refine ro_iload_n dJ9_floorMod_7cf53_4 rfl rfl ?_
  refine ro_iload_n dJ9_floorMod_7cf53_5 rfl rfl ?_
  refine ro_ixor dJ9_floorMod_7cf53_6 ?_
  refine ro_if_ge 18 dJ9_floorMod_7cf53_7 (by decide) (fun h7 => ?_) (fun h7 => ?_)
  · refine ro_iload_n dJ9_floorMod_7cf53_18 rfl rfl ?_
    refine ro_iret rfl dJ9_floorMod_7cf53_19 ?_
    exact ⟨rfl, rfl, rfl⟩
  · exact absurd (fa_xor0 hh h1) h7
theorem ct_sayingAt {g : GT} {M : MM} {L : LL} {l n h : Nat} (hl : ln_ok l) (hn : M l 1 = nI n) (h5 : n ≤ 8) (hh : h < 2 ^ 31) : CT g mX2_sayingAt 1 [.ref (dq_A g l), .int (nI h)] M L (some (.int (if n = 0 then -9 else nI (h % n)))) M L := by
  refine ct_of ok_X2_sayingAt (lv := [some (.ref (dq_A g l)), some (.int (nI h))]) rfl (Nat.le_of_ble_eq_true rfl) ?_
  refine ro_aload_n dX2_sayingAt_0 rfl rfl ?_
  refine gf_X2_sayings hl in_X2_sayingAt_X2 lk_X2_sayingAt_34 dX2_sayingAt_1 ?_
  rw [hn]
  refine ro_if_le 18 dX2_sayingAt_4 (by decide) (fun h4 => ?_) (fun h4 => ?_)
  · rw [nI_le0 (by omega)] at h4
    refine ro_bipush (v := -9) dX2_sayingAt_18 (by decide) ?_
    refine ro_iret rfl dX2_sayingAt_20 ?_
    exact ⟨by first | (rw [if_pos h4]; done) | (rw [if_neg h4]), rfl, rfl⟩
  · rw [nI_le0 (by omega)] at h4
    refine ro_iload_n dX2_sayingAt_7 rfl rfl ?_
    refine ro_aload_n dX2_sayingAt_8 rfl rfl ?_
    refine gf_X2_sayings hl in_X2_sayingAt_X2 lk_X2_sayingAt_34 dX2_sayingAt_9 ?_
    rw [hn]
    refine ro_callS2 ok_J9_floorMod_7cf53 (ct_floorMod (h := h) (n := n) hh (by omega) (by omega)) gX2_sayingAt_J9_floorMod_7cf53 (Nat.le_of_ble_eq_true rfl) (Nat.le_of_ble_eq_true rfl) dX2_sayingAt_12 ?_
    refine ro_goto 20 dX2_sayingAt_15 (by decide) ?_
    refine ro_iret rfl dX2_sayingAt_20 ?_
    exact ⟨by first | (rw [if_pos h4]; done) | (rw [if_neg h4]), rfl, rfl⟩
theorem ct_rainAt {g : GT} {M : MM} {L : LL} {l h : Nat} {ln : LN} (hl : ln_ok l) (hR : LaneR M l ln) (ok : LnOK ln) (hh : h < 2 ^ 31) : CT g mX2_rainAt 1 [.ref (dq_A g l), .int (nI h)] M L (some (.int (nI (ln_rainAt ln h)))) M L := by
  have hn := hR.2.2.1
  have h4r := ok.2.2.1
  refine ct_of ok_X2_rainAt (lv := [some (.ref (dq_A g l)), some (.int (nI h))]) rfl (Nat.le_of_ble_eq_true rfl) ?_
  refine ro_aload_n dX2_rainAt_0 rfl rfl ?_
  refine gf_X2_rains hl in_X2_rainAt_X2 lk_X2_rainAt_37 dX2_rainAt_1 ?_
  rw [hn]
  refine ro_if_le 23 dX2_rainAt_4 (by decide) (fun h4 => ?_) (fun h4 => ?_)
  · rw [nI_le0 (by omega)] at h4
    refine ro_iconst (v := 0) dX2_rainAt_23 (by decide) ?_
    refine ro_iret rfl dX2_rainAt_24 ?_
    exact ⟨by first | (rw [ln_rainAt, if_pos h4]; rfl) | (rw [ln_rainAt, if_neg h4]), rfl, rfl⟩
  · rw [nI_le0 (by omega)] at h4
    refine ro_aload_n dX2_rainAt_7 rfl rfl ?_
    refine gf_X2_rain hl in_X2_rainAt_X2 lk_X2_rainAt_27 dX2_rainAt_8 ?_
    refine ro_iload_n dX2_rainAt_11 rfl rfl ?_
    refine ro_aload_n dX2_rainAt_12 rfl rfl ?_
    refine gf_X2_rains hl in_X2_rainAt_X2 lk_X2_rainAt_37 dX2_rainAt_13 ?_
    rw [hn]
    refine ro_callS2 ok_J9_floorMod_7cf53 (ct_floorMod (h := h) (n := ln_r ln) hh (by omega) (by omega)) gX2_rainAt_J9_floorMod_7cf53 (Nat.le_of_ble_eq_true rfl) (Nat.le_of_ble_eq_true rfl) dX2_rainAt_16 ?_
    refine ro_ai (ar_l6 hl) (k := h % ln_r ln) rfl (by have := Nat.mod_lt h (show 0 < ln_r ln by omega); omega) dX2_rainAt_19 ?_
    rw [hR.2.2.2.2.2.2.2.2 _ (Nat.mod_lt _ (by omega))]
    refine ro_goto 24 dX2_rainAt_20 (by decide) ?_
    refine ro_iret rfl dX2_rainAt_24 ?_
    exact ⟨by first | (rw [ln_rainAt, if_pos h4]; rfl) | (rw [ln_rainAt, if_neg h4]), rfl, rfl⟩
/-- a lane without anything -/
def ln_e : LN := (0, 0, 0, fun _ => 0, fun _ => 0, fun _ => 0, fun _ => 0, fun _ => 0, fun _ => 0)
def ln_addH (l : LN) (k w : Nat) : LN := (ln_n l + 1, ln_s l, ln_r l, va_up (ln_wall l) (ln_n l) w, va_up (ln_kind l) (ln_n l) k, ln_place l, ln_thing l, ln_loud l, ln_rain l)
def ln_addS (l : LN) (p t v : Nat) : LN := (ln_n l, ln_s l + 1, ln_r l, ln_wall l, ln_kind l, va_up (ln_place l) (ln_s l) p, va_up (ln_thing l) (ln_s l) t, va_up (ln_loud l) (ln_s l) v, ln_rain l)
def ln_addR (l : LN) (r : Nat) : LN := (ln_n l, ln_s l, ln_r l + 1, ln_wall l, ln_kind l, ln_place l, ln_thing l, ln_loud l, va_up (ln_rain l) (ln_r l) r)
/-- only the cells from a to b may differ -/
def OnlyB (a b : Nat) (M M' : MM) : Prop := ∀ i, (i < a ∨ b < i) → M' i = M i
theorem OnlyB.rf {a b : Nat} {M : MM} : OnlyB a b M M := fun _ _ => rfl
theorem OnlyB.tr {a b : Nat} {M M' M'' : MM} (h : OnlyB a b M M') (h2 : OnlyB a b M' M'') : OnlyB a b M M'' := fun i hi => (h2 i hi).trans (h i hi)
theorem OnlyB.up {a b i : Nat} {M M' : MM} {r : Nat → Int32} (e : M' = va_up M i r) (h1 : a ≤ i) (h2 : i ≤ b) : OnlyB a b M M' := fun j hj => by rw [e, va_up_ne _ _ (by omega)]
theorem OnlyB.wide {a b a' b' : Nat} {M M' : MM} (h : OnlyB a b M M') (h1 : a' ≤ a) (h2 : b ≤ b') : OnlyB a' b' M M' := fun j hj => h j (by omega)
theorem ct_clear {g : GT} {M : MM} {L : LL} : CTQ g mX2_clear 0 [.ref (dq_A g 23)] M L (fun r M' L' => r = none ∧ LaneR M' 23 ln_e ∧ OnlyB 23 29 M M' ∧ L' = L) := by
  refine ct_of ok_X2_clear (lv := [some (.ref (dq_A g 23))]) rfl (Nat.le_of_ble_eq_true rfl) ?_
  refine ro_aload_n dX2_clear_0 rfl rfl ?_
  refine ro_iconst (v := 0) dX2_clear_1 (by decide) ?_
  refine pf_X2_houses ln_23 in_X2_clear_X2 lk_X2_clear_30  dX2_clear_2 (fun M2 e2 => ?_)
  refine ro_aload_n dX2_clear_5 rfl rfl ?_
  refine ro_iconst (v := 0) dX2_clear_6 (by decide) ?_
  refine pf_X2_sayings ln_23 in_X2_clear_X2 lk_X2_clear_34  dX2_clear_7 (fun M7 e7 => ?_)
  refine ro_aload_n dX2_clear_10 rfl rfl ?_
  refine ro_iconst (v := 0) dX2_clear_11 (by decide) ?_
  refine pf_X2_rains ln_23 in_X2_clear_X2 lk_X2_clear_37  dX2_clear_12 (fun M12 e12 => ?_)
  refine ro_vret rfl dX2_clear_15 ?_
  refine ⟨rfl, ?_, ((OnlyB.up e2 (by decide) (by decide)).tr (OnlyB.up e7 (by decide) (by decide))).tr (OnlyB.up e12 (by decide) (by decide)), rfl⟩
  unfold LaneR
  simp [e2, e7, e12, va_up, upd, ln_e, ln_n, ln_s, ln_r, nI_0]
theorem row_add {f : Nat → Int32} {a : Nat → Nat} {n w : Nat} (h : ∀ j, j < n → f j = nI (a j)) : ∀ j, j < n + 1 → upd f n (nI w) j = nI (va_up a n w j) := by
  intro j hj
  unfold upd va_up
  split
  · rfl
  · exact h j (by omega)
theorem ct_addHouse {g : GT} {M : MM} {L : LL} {ln : LN} {k w : Nat} (hR : LaneR M 23 ln) (h5 : ln_n ln < 5) : CTQ g mX2_addHouse 0 [.ref (dq_A g 23), .int (nI k), .int (nI w)] M L (fun r M' L' => r = none ∧ LaneR M' 23 (ln_addH ln k w) ∧ OnlyB 23 29 M M' ∧ L' = L) := by
  have hn := hR.1
  refine ct_of ok_X2_addHouse (lv := [some (.ref (dq_A g 23)), some (.int (nI k)), some (.int (nI w))]) rfl (Nat.le_of_ble_eq_true rfl) ?_
  refine ro_aload_n dX2_addHouse_0 rfl rfl ?_
  refine gf_X2_houses ln_23 in_X2_addHouse_X2 lk_X2_addHouse_30 dX2_addHouse_1 ?_
  rw [hn]
  refine ro_iconst (v := 5) dX2_addHouse_4 (by decide) ?_
  refine ro_icmp_ge 38 dX2_addHouse_5 (by decide) (fun b5 => ?_) (fun b5 => ?_)
  · exact absurd b5 (nI_ge (b := 5) (by omega) (by decide))
  · refine ro_aload_n dX2_addHouse_8 rfl rfl ?_
    refine gf_X2_kind ln_23 in_X2_addHouse_X2 lk_X2_addHouse_15 dX2_addHouse_9 ?_
    refine ro_aload_n dX2_addHouse_12 rfl rfl ?_
    refine gf_X2_houses ln_23 in_X2_addHouse_X2 lk_X2_addHouse_30 dX2_addHouse_13 ?_
    rw [hn]
    refine ro_iload_n dX2_addHouse_16 rfl rfl ?_
    refine ro_as (ar_l2 ln_23) rfl (by omega) dX2_addHouse_17 (fun M17 e17 => ?_)
    refine ro_aload_n dX2_addHouse_18 rfl rfl ?_
    refine gf_X2_wall ln_23 in_X2_addHouse_X2 lk_X2_addHouse_9 dX2_addHouse_19 ?_
    refine ro_aload_n dX2_addHouse_22 rfl rfl ?_
    refine gf_X2_houses ln_23 in_X2_addHouse_X2 lk_X2_addHouse_30 dX2_addHouse_23 ?_
    rw [show M17 23 0 = nI (ln_n ln) by simp [e17, va_up, hn]]
    refine ro_iload_n dX2_addHouse_26 rfl rfl ?_
    refine ro_as (ar_l1 ln_23) rfl (by omega) dX2_addHouse_27 (fun M27 e27 => ?_)
    refine ro_aload_n dX2_addHouse_28 rfl rfl ?_
    refine ro_dup dX2_addHouse_29 rfl ?_
    refine gf_X2_houses ln_23 in_X2_addHouse_X2 lk_X2_addHouse_30 dX2_addHouse_30 ?_
    rw [show M27 23 0 = nI (ln_n ln) by simp [e27, e17, va_up, hn]]
    refine ro_iconst (v := 1) dX2_addHouse_33 (by decide) ?_
    refine ro_iadd dX2_addHouse_34 ?_
    rw [nI_1]
    refine pf_X2_houses ln_23 in_X2_addHouse_X2 lk_X2_addHouse_30  dX2_addHouse_35 (fun M35 e35 => ?_)
    refine ro_vret rfl dX2_addHouse_38 ?_
    refine ⟨rfl, ?_, ((OnlyB.up e17 (by decide) (by decide)).tr (OnlyB.up e27 (by decide) (by decide))).tr (OnlyB.up e35 (by decide) (by decide)), rfl⟩
    have r0 : M35 23 = upd (M 23) 0 (nI (ln_n ln + 1)) := by simp [e35, e27, e17, va_up]
    have r1 : M35 24 = upd (M 24) (ln_n ln) (nI w) := by simp [e35, e27, e17, va_up]
    have r2 : M35 25 = upd (M 25) (ln_n ln) (nI k) := by simp [e35, e27, e17, va_up]
    have r3 : ∀ q, 25 < q → M35 q = M q := fun q hq => by rw [e35, e27, e17, va_up_ne _ _ (by omega), va_up_ne _ _ (by omega), va_up_ne _ _ (by omega)]
    refine ⟨by rw [r0]; rfl, by rw [r0]; exact hR.2.1, by rw [r0]; exact hR.2.2.1, ?_, ?_, ?_, ?_, ?_, ?_⟩
    · rw [show 23 + 1 = 24 from rfl, r1]; exact row_add hR.2.2.2.1
    · rw [show 23 + 2 = 25 from rfl, r2]; exact row_add hR.2.2.2.2.1
    · rw [r3 _ (by decide)]; exact hR.2.2.2.2.2.1
    · rw [r3 _ (by decide)]; exact hR.2.2.2.2.2.2.1
    · rw [r3 _ (by decide)]; exact hR.2.2.2.2.2.2.2.1
    · rw [r3 _ (by decide)]; exact hR.2.2.2.2.2.2.2.2
theorem ct_addSaying {g : GT} {M : MM} {L : LL} {ln : LN} {p t v : Nat} (hR : LaneR M 23 ln) (h8 : ln_s ln < 8) : CTQ g mX2_addSaying 0 [.ref (dq_A g 23), .int (nI p), .int (nI t), .int (nI v)] M L (fun r M' L' => r = none ∧ LaneR M' 23 (ln_addS ln p t v) ∧ OnlyB 23 29 M M' ∧ L' = L) := by
  have hn := hR.2.1
  refine ct_of ok_X2_addSaying (lv := [some (.ref (dq_A g 23)), some (.int (nI p)), some (.int (nI t)), some (.int (nI v))]) rfl (Nat.le_of_ble_eq_true rfl) ?_
  refine ro_aload_n dX2_addSaying_0 rfl rfl ?_
  refine gf_X2_sayings ln_23 in_X2_addSaying_X2 lk_X2_addSaying_34 dX2_addSaying_1 ?_
  rw [hn]
  refine ro_bipush (v := 8) dX2_addSaying_4 (by decide) ?_
  refine ro_icmp_ge 49 dX2_addSaying_6 (by decide) (fun b6 => ?_) (fun b6 => ?_)
  · exact absurd b6 (nI_ge (b := 8) (by omega) (by decide))
  · refine ro_aload_n dX2_addSaying_9 rfl rfl ?_
    refine gf_X2_place ln_23 in_X2_addSaying_X2 lk_X2_addSaying_18 dX2_addSaying_10 ?_
    refine ro_aload_n dX2_addSaying_13 rfl rfl ?_
    refine gf_X2_sayings ln_23 in_X2_addSaying_X2 lk_X2_addSaying_34 dX2_addSaying_14 ?_
    rw [hn]
    refine ro_iload_n dX2_addSaying_17 rfl rfl ?_
    refine ro_as (ar_l3 ln_23) rfl (by omega) dX2_addSaying_18 (fun M18 e18 => ?_)
    refine ro_aload_n dX2_addSaying_19 rfl rfl ?_
    refine gf_X2_thing ln_23 in_X2_addSaying_X2 lk_X2_addSaying_21 dX2_addSaying_20 ?_
    refine ro_aload_n dX2_addSaying_23 rfl rfl ?_
    refine gf_X2_sayings ln_23 in_X2_addSaying_X2 lk_X2_addSaying_34 dX2_addSaying_24 ?_
    rw [show M18 23 1 = nI (ln_s ln) by simp [e18, va_up, hn]]
    refine ro_iload_n dX2_addSaying_27 rfl rfl ?_
    refine ro_as (ar_l4 ln_23) rfl (by omega) dX2_addSaying_28 (fun M28 e28 => ?_)
    refine ro_aload_n dX2_addSaying_29 rfl rfl ?_
    refine gf_X2_loud ln_23 in_X2_addSaying_X2 lk_X2_addSaying_24 dX2_addSaying_30 ?_
    refine ro_aload_n dX2_addSaying_33 rfl rfl ?_
    refine gf_X2_sayings ln_23 in_X2_addSaying_X2 lk_X2_addSaying_34 dX2_addSaying_34 ?_
    rw [show M28 23 1 = nI (ln_s ln) by simp [e28, e18, va_up, hn]]
    refine ro_iload_n dX2_addSaying_37 rfl rfl ?_
    refine ro_as (ar_l5 ln_23) rfl (by omega) dX2_addSaying_38 (fun M38 e38 => ?_)
    refine ro_aload_n dX2_addSaying_39 rfl rfl ?_
    refine ro_dup dX2_addSaying_40 rfl ?_
    refine gf_X2_sayings ln_23 in_X2_addSaying_X2 lk_X2_addSaying_34 dX2_addSaying_41 ?_
    rw [show M38 23 1 = nI (ln_s ln) by simp [e38, e28, e18, va_up, hn]]
    refine ro_iconst (v := 1) dX2_addSaying_44 (by decide) ?_
    refine ro_iadd dX2_addSaying_45 ?_
    rw [nI_1]
    refine pf_X2_sayings ln_23 in_X2_addSaying_X2 lk_X2_addSaying_34  dX2_addSaying_46 (fun M46 e46 => ?_)
    refine ro_vret rfl dX2_addSaying_49 ?_
    refine ⟨rfl, ?_, (((OnlyB.up e18 (by decide) (by decide)).tr (OnlyB.up e28 (by decide) (by decide))).tr (OnlyB.up e38 (by decide) (by decide))).tr (OnlyB.up e46 (by decide) (by decide)), rfl⟩
    have r0 : M46 23 = upd (M 23) 1 (nI (ln_s ln + 1)) := by simp [e46, e38, e28, e18, va_up]
    have r1 : M46 26 = upd (M 26) (ln_s ln) (nI p) := by simp [e46, e38, e28, e18, va_up]
    have r2 : M46 27 = upd (M 27) (ln_s ln) (nI t) := by simp [e46, e38, e28, e18, va_up]
    have r3 : M46 28 = upd (M 28) (ln_s ln) (nI v) := by simp [e46, e38, e28, e18, va_up]
    have r4 : ∀ q, q = 24 ∨ q = 25 ∨ q = 29 → M46 q = M q := fun q hq => by rw [e46, e38, e28, e18, va_up_ne _ _ (by omega), va_up_ne _ _ (by omega), va_up_ne _ _ (by omega), va_up_ne _ _ (by omega)]
    refine ⟨by rw [r0]; exact hR.1, by rw [r0]; rfl, by rw [r0]; exact hR.2.2.1, ?_, ?_, ?_, ?_, ?_, ?_⟩
    · rw [r4 _ (by decide)]; exact hR.2.2.2.1
    · rw [r4 _ (by decide)]; exact hR.2.2.2.2.1
    · rw [show 23 + 3 = 26 from rfl, r1]; exact row_add hR.2.2.2.2.2.1
    · rw [show 23 + 4 = 27 from rfl, r2]; exact row_add hR.2.2.2.2.2.2.1
    · rw [show 23 + 5 = 28 from rfl, r3]; exact row_add hR.2.2.2.2.2.2.2.1
    · rw [r4 _ (by decide)]; exact hR.2.2.2.2.2.2.2.2
theorem ct_addRain {g : GT} {M : MM} {L : LL} {ln : LN} {r : Nat} (hR : LaneR M 23 ln) (h4 : ln_r ln < 4) : CTQ g mX2_addRain 0 [.ref (dq_A g 23), .int (nI r)] M L (fun v M' L' => v = none ∧ LaneR M' 23 (ln_addR ln r) ∧ OnlyB 23 29 M M' ∧ L' = L) := by
  have hn := hR.2.2.1
  refine ct_of ok_X2_addRain (lv := [some (.ref (dq_A g 23)), some (.int (nI r))]) rfl (Nat.le_of_ble_eq_true rfl) ?_
  refine ro_aload_n dX2_addRain_0 rfl rfl ?_
  refine gf_X2_rains ln_23 in_X2_addRain_X2 lk_X2_addRain_37 dX2_addRain_1 ?_
  rw [hn]
  refine ro_iconst (v := 4) dX2_addRain_4 (by decide) ?_
  refine ro_icmp_ge 28 dX2_addRain_5 (by decide) (fun b5 => ?_) (fun b5 => ?_)
  · exact absurd b5 (nI_ge (b := 4) (by omega) (by decide))
  · refine ro_aload_n dX2_addRain_8 rfl rfl ?_
    refine gf_X2_rain ln_23 in_X2_addRain_X2 lk_X2_addRain_27 dX2_addRain_9 ?_
    refine ro_aload_n dX2_addRain_12 rfl rfl ?_
    refine gf_X2_rains ln_23 in_X2_addRain_X2 lk_X2_addRain_37 dX2_addRain_13 ?_
    rw [hn]
    refine ro_iload_n dX2_addRain_16 rfl rfl ?_
    refine ro_as (ar_l6 ln_23) rfl (by omega) dX2_addRain_17 (fun M17 e17 => ?_)
    refine ro_aload_n dX2_addRain_18 rfl rfl ?_
    refine ro_dup dX2_addRain_19 rfl ?_
    refine gf_X2_rains ln_23 in_X2_addRain_X2 lk_X2_addRain_37 dX2_addRain_20 ?_
    rw [show M17 23 2 = nI (ln_r ln) by simp [e17, va_up, hn]]
    refine ro_iconst (v := 1) dX2_addRain_23 (by decide) ?_
    refine ro_iadd dX2_addRain_24 ?_
    rw [nI_1]
    refine pf_X2_rains ln_23 in_X2_addRain_X2 lk_X2_addRain_37  dX2_addRain_25 (fun M25 e25 => ?_)
    refine ro_vret rfl dX2_addRain_28 ?_
    refine ⟨rfl, ?_, (OnlyB.up e17 (by decide) (by decide)).tr (OnlyB.up e25 (by decide) (by decide)), rfl⟩
    have r0 : M25 23 = upd (M 23) 2 (nI (ln_r ln + 1)) := by simp [e25, e17, va_up]
    have r1 : M25 29 = upd (M 29) (ln_r ln) (nI r) := by simp [e25, e17, va_up]
    have r4 : ∀ q, 23 < q ∧ q < 29 → M25 q = M q := fun q hq => by rw [e25, e17, va_up_ne _ _ (by omega), va_up_ne _ _ (by omega)]
    refine ⟨by rw [r0]; exact hR.1, by rw [r0]; exact hR.2.1, by rw [r0]; rfl, ?_, ?_, ?_, ?_, ?_, ?_⟩
    · rw [r4 _ (by decide)]; exact hR.2.2.2.1
    · rw [r4 _ (by decide)]; exact hR.2.2.2.2.1
    · rw [r4 _ (by decide)]; exact hR.2.2.2.2.2.1
    · rw [r4 _ (by decide)]; exact hR.2.2.2.2.2.2.1
    · rw [r4 _ (by decide)]; exact hR.2.2.2.2.2.2.2.1
    · rw [show 23 + 6 = 29 from rfl, r1]; exact row_add hR.2.2.2.2.2.2.2.2
theorem ct_laneTake {g : GT} {M : MM} {L : LL} {ln : LN} (hR : LaneR M 23 ln) (ok : LnOK ln) : CTQ g mX2_take 1 [.ref (dq_A g 16), .ref (dq_A g 23)] M L (fun v M' L' => v = none ∧ LaneR M' 16 ln ∧ OnlyB 16 22 M M' ∧ L' = L) := by
  refine ct_of ok_X2_take (lv := [some (.ref (dq_A g 16)), some (.ref (dq_A g 23))]) rfl (Nat.le_of_ble_eq_true rfl) ?_
  refine ro_aload_n dX2_take_0 rfl rfl ?_
  refine ro_aload_n dX2_take_1 rfl rfl ?_
  refine gf_X2_houses ln_23 in_X2_take_X2 lk_X2_take_30 dX2_take_2 ?_
  refine pf_X2_houses ln_16 in_X2_take_X2 lk_X2_take_30  dX2_take_5 (fun M5 e5 => ?_)
  refine ro_aload_n dX2_take_8 rfl rfl ?_
  refine ro_aload_n dX2_take_9 rfl rfl ?_
  refine gf_X2_sayings ln_23 in_X2_take_X2 lk_X2_take_34 dX2_take_10 ?_
  refine pf_X2_sayings ln_16 in_X2_take_X2 lk_X2_take_34  dX2_take_13 (fun M13 e13 => ?_)
  refine ro_aload_n dX2_take_16 rfl rfl ?_
  refine ro_aload_n dX2_take_17 rfl rfl ?_
  refine gf_X2_rains ln_23 in_X2_take_X2 lk_X2_take_37 dX2_take_18 ?_
  refine pf_X2_rains ln_16 in_X2_take_X2 lk_X2_take_37  dX2_take_21 (fun M21 e21 => ?_)
  refine ro_aload_n dX2_take_24 rfl rfl ?_
  refine gf_X2_wall ln_23 in_X2_take_X2 lk_X2_take_9 dX2_take_25 ?_
  refine ro_iconst (v := 0) dX2_take_28 (by decide) ?_
  refine ro_aload_n dX2_take_29 rfl rfl ?_
  refine gf_X2_wall ln_16 in_X2_take_X2 lk_X2_take_9 dX2_take_30 ?_
  refine ro_iconst (v := 0) dX2_take_33 (by decide) ?_
  refine ro_iconst (v := 5) dX2_take_34 (by decide) ?_
  refine ro_copy (ar_l1 ln_23) (ar_l1 ln_16) lk_X2_take_40 dX2_take_35 (fun M35 e35 => ?_)
  refine ro_aload_n dX2_take_38 rfl rfl ?_
  refine gf_X2_kind ln_23 in_X2_take_X2 lk_X2_take_15 dX2_take_39 ?_
  refine ro_iconst (v := 0) dX2_take_42 (by decide) ?_
  refine ro_aload_n dX2_take_43 rfl rfl ?_
  refine gf_X2_kind ln_16 in_X2_take_X2 lk_X2_take_15 dX2_take_44 ?_
  refine ro_iconst (v := 0) dX2_take_47 (by decide) ?_
  refine ro_iconst (v := 5) dX2_take_48 (by decide) ?_
  refine ro_copy (ar_l2 ln_23) (ar_l2 ln_16) lk_X2_take_40 dX2_take_49 (fun M49 e49 => ?_)
  refine ro_aload_n dX2_take_52 rfl rfl ?_
  refine gf_X2_place ln_23 in_X2_take_X2 lk_X2_take_18 dX2_take_53 ?_
  refine ro_iconst (v := 0) dX2_take_56 (by decide) ?_
  refine ro_aload_n dX2_take_57 rfl rfl ?_
  refine gf_X2_place ln_16 in_X2_take_X2 lk_X2_take_18 dX2_take_58 ?_
  refine ro_iconst (v := 0) dX2_take_61 (by decide) ?_
  refine ro_bipush (v := 8) dX2_take_62 (by decide) ?_
  refine ro_copy (ar_l3 ln_23) (ar_l3 ln_16) lk_X2_take_40 dX2_take_64 (fun M64 e64 => ?_)
  refine ro_aload_n dX2_take_67 rfl rfl ?_
  refine gf_X2_thing ln_23 in_X2_take_X2 lk_X2_take_21 dX2_take_68 ?_
  refine ro_iconst (v := 0) dX2_take_71 (by decide) ?_
  refine ro_aload_n dX2_take_72 rfl rfl ?_
  refine gf_X2_thing ln_16 in_X2_take_X2 lk_X2_take_21 dX2_take_73 ?_
  refine ro_iconst (v := 0) dX2_take_76 (by decide) ?_
  refine ro_bipush (v := 8) dX2_take_77 (by decide) ?_
  refine ro_copy (ar_l4 ln_23) (ar_l4 ln_16) lk_X2_take_40 dX2_take_79 (fun M79 e79 => ?_)
  refine ro_aload_n dX2_take_82 rfl rfl ?_
  refine gf_X2_loud ln_23 in_X2_take_X2 lk_X2_take_24 dX2_take_83 ?_
  refine ro_iconst (v := 0) dX2_take_86 (by decide) ?_
  refine ro_aload_n dX2_take_87 rfl rfl ?_
  refine gf_X2_loud ln_16 in_X2_take_X2 lk_X2_take_24 dX2_take_88 ?_
  refine ro_iconst (v := 0) dX2_take_91 (by decide) ?_
  refine ro_bipush (v := 8) dX2_take_92 (by decide) ?_
  refine ro_copy (ar_l5 ln_23) (ar_l5 ln_16) lk_X2_take_40 dX2_take_94 (fun M94 e94 => ?_)
  refine ro_aload_n dX2_take_97 rfl rfl ?_
  refine gf_X2_rain ln_23 in_X2_take_X2 lk_X2_take_27 dX2_take_98 ?_
  refine ro_iconst (v := 0) dX2_take_101 (by decide) ?_
  refine ro_aload_n dX2_take_102 rfl rfl ?_
  refine gf_X2_rain ln_16 in_X2_take_X2 lk_X2_take_27 dX2_take_103 ?_
  refine ro_iconst (v := 0) dX2_take_106 (by decide) ?_
  refine ro_iconst (v := 4) dX2_take_107 (by decide) ?_
  refine ro_copy (ar_l6 ln_23) (ar_l6 ln_16) lk_X2_take_40 dX2_take_108 (fun M108 e108 => ?_)
  refine ro_vret rfl dX2_take_111 ?_
  have ho : OnlyB 16 22 M M108 := ((((((((OnlyB.up e5 (by decide) (by decide)).tr (OnlyB.up e13 (by decide) (by decide))).tr (OnlyB.up e21 (by decide) (by decide))).tr (OnlyB.up e35 (by decide) (by decide))).tr (OnlyB.up e49 (by decide) (by decide))).tr (OnlyB.up e64 (by decide) (by decide))).tr (OnlyB.up e79 (by decide) (by decide))).tr (OnlyB.up e94 (by decide) (by decide))).tr (OnlyB.up e108 (by decide) (by decide))
  refine ⟨rfl, ?_, ho, rfl⟩
  have q0 : M108 16 0 = M 23 0 ∧ M108 16 1 = M 23 1 ∧ M108 16 2 = M 23 2 := by simp [e108, e94, e79, e64, e49, e35, e21, e13, e5, va_up, upd]
  have q1 : M108 17 = va_cpy (M 24) (M 17) 0 0 5 := by simp [e108, e94, e79, e64, e49, e35, e21, e13, e5, va_up]
  have q2 : M108 18 = va_cpy (M 25) (M 18) 0 0 5 := by simp [e108, e94, e79, e64, e49, e35, e21, e13, e5, va_up]
  have q3 : M108 19 = va_cpy (M 26) (M 19) 0 0 8 := by simp [e108, e94, e79, e64, e49, e35, e21, e13, e5, va_up]
  have q4 : M108 20 = va_cpy (M 27) (M 20) 0 0 8 := by simp [e108, e94, e79, e64, e49, e35, e21, e13, e5, va_up]
  have q5 : M108 21 = va_cpy (M 28) (M 21) 0 0 8 := by simp [e108, e94, e79, e64, e49, e35, e21, e13, e5, va_up]
  have q6 : M108 22 = va_cpy (M 29) (M 22) 0 0 4 := by simp [e108, e94, e79, e64, e49, e35, e21, e13, e5, va_up]
  have a1 := ok.1
  have a2 := ok.2.1
  have a3 := ok.2.2.1
  refine ⟨q0.1.trans hR.1, q0.2.1.trans hR.2.1, q0.2.2.trans hR.2.2.1, ?_, ?_, ?_, ?_, ?_, ?_⟩
  · rw [show 16 + 1 = 17 from rfl, q1]; exact fun j hj => (sb_cpy0 (by omega)).trans (hR.2.2.2.1 j hj)
  · rw [show 16 + 2 = 18 from rfl, q2]; exact fun j hj => (sb_cpy0 (by omega)).trans (hR.2.2.2.2.1 j hj)
  · rw [show 16 + 3 = 19 from rfl, q3]; exact fun j hj => (sb_cpy0 (by omega)).trans (hR.2.2.2.2.2.1 j hj)
  · rw [show 16 + 4 = 20 from rfl, q4]; exact fun j hj => (sb_cpy0 (by omega)).trans (hR.2.2.2.2.2.2.1 j hj)
  · rw [show 16 + 5 = 21 from rfl, q5]; exact fun j hj => (sb_cpy0 (by omega)).trans (hR.2.2.2.2.2.2.2.1 j hj)
  · rw [show 16 + 6 = 22 from rfl, q6]; exact fun j hj => (sb_cpy0 (by omega)).trans (hR.2.2.2.2.2.2.2.2 j hj)
