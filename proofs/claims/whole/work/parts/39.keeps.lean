/-! keeps -/
def mostW (c : SC) (j : Nat) : Nat := if sc_vo c j + 3 < 3 then (sc_vo c j + 3).toNat else 3
def lowW (n : Nat) (c : SC) (w : Nat → Nat) : SC := (sc_who c, sc_kn c, fun j => if j < n then sc_vo c j - (w j : Nat) else sc_vo c j, sc_dry c, sc_hr c)
theorem lowW_0 (c : SC) (w : Nat → Nat) (j : Nat) : sc_vo (lowW 0 c w) j = sc_vo c j := by simp [lowW, sc_vo]
def kepB (l : LN) (c : SC) (h t n : Nat) (w : Nat → Nat) : Bool := !((sc_kn (hrsC l n (lowW (ln_n l) c w)) h).testBit t)
def lstM (p : Nat → Bool) : Nat → Nat → Nat
  | 0, m => m
  | f + 1, m => if p m = true then m else lstM p f (m + 1)
theorem lstM_ok (p : Nat → Bool) : ∀ f m, p (m + f) = true → p (lstM p f m) = true ∧ m ≤ lstM p f m ∧ lstM p f m ≤ m + f
  | 0, m, h => ⟨h, Nat.le_refl _, Nat.le_refl _⟩
  | f + 1, m, h => by
    rw [lstM]
    split
    · next z => exact ⟨z, Nat.le_refl _, by omega⟩
    · have := lstM_ok p f (m + 1) (by rw [show m + 1 + f = m + (f + 1) by omega]; exact h)
      exact ⟨this.1, by omega, by omega⟩
def seqW (K : (Nat → Nat) → Bool) (mx : Nat → Nat) : Nat → Nat → Nat
  | 0 => mx
  | i + 1 => va_up (seqW K mx i) i (lstM (fun m => K (va_up (seqW K mx i) i m)) (mx i) 0)
theorem seqW_hi (K : (Nat → Nat) → Bool) (mx : Nat → Nat) : ∀ i j, i ≤ j → seqW K mx i j = mx j
  | 0, _, _ => rfl
  | i + 1, j, h => by rw [seqW, va_up_ne _ _ (by omega)]; exact seqW_hi K mx i j (by omega)
theorem seqW_ok {K : (Nat → Nat) → Bool} {mx : Nat → Nat} (h : K mx = true) : ∀ i, K (seqW K mx i) = true ∧ ∀ j, seqW K mx i j ≤ mx j
  | 0 => ⟨h, fun _ => Nat.le_refl _⟩
  | i + 1 => by
    have ih := seqW_ok h i
    have e : va_up (seqW K mx i) i (mx i) = seqW K mx i := by
      rw [← seqW_hi K mx i i (Nat.le_refl _)]
      exact va_up_id _ _
    have hl := lstM_ok (fun m => K (va_up (seqW K mx i) i m)) (mx i) 0 (by rw [Nat.zero_add]; show K _ = true; rw [e]; exact ih.1)
    refine ⟨hl.1, fun j => ?_⟩
    rw [seqW]
    by_cases hj : j = i
    · subst hj; rw [va_up_self]; omega
    · rw [va_up_ne _ _ hj]; exact ih.2 j
theorem most_le (c : SC) (j : Nat) (h : -3 ≤ sc_vo c j) : mostW c j ≤ 3 ∧ (mostW c j : Int) ≤ sc_vo c j + 3 := by
  unfold mostW
  split <;> omega
theorem lowW_ok {n b : Nat} {c : SC} {w : Nat → Nat} (oc : ScOK n b c) (hw : ∀ j, j < n → w j ≤ mostW c j) : ScOK n b (lowW n c w) := by
  refine ⟨oc.1, oc.2.1, oc.2.2.1, fun j => ?_, oc.2.2.2.2⟩
  show -3 ≤ (if j < n then sc_vo c j - (w j : Nat) else sc_vo c j) ∧ (if j < n then sc_vo c j - (w j : Nat) else sc_vo c j) ≤ 3
  have h1 := oc.2.2.2.1 j
  have h2 := most_le c j h1.1
  split
  · next z => have := hw j z; omega
  · exact h1
def OnlyK (M M' : MM) : Prop := ∀ i, i ≠ 5 → (i < 34 ∨ 37 < i) → M' i = M i
theorem OnlyK.rf {M : MM} : OnlyK M M := fun _ _ _ => rfl
theorem OnlyK.tr {M M' M'' : MM} (h : OnlyK M M') (h2 : OnlyK M' M'') : OnlyK M M'' := fun i a b => (h2 i a b).trans (h i a b)
theorem OnlyK.tri {M M' : MM} (h : OnlyB 34 37 M M') : OnlyK M M' := fun i _ b => h i b
theorem OnlyK.up {M M' : MM} {r : Nat → Int32} (e : M' = va_up M 5 r) : OnlyK M M' := fun i a _ => by rw [e, va_up_ne _ _ a]
theorem OnlyK.sc {M M' : MM} (h : OnlyK M M') : OnlySc M M' := fun i a b c => h i (by omega) (by omega)
theorem lp_kept {g : GT} {L : LL} {ln : LN} {b h t n : Nat} {c : SC} {w : Nat → Nat} {M0 : MM} (ok : LnOK ln) (oc : ScOK (ln_n ln) b c) (hw : ∀ j, j < ln_n ln → w j ≤ mostW c j) (hh : h < ln_n ln) (ht : t < 6) (hn : n ≤ 12) (hb : b < 2 ^ 29) : ∀ (f i : Nat), i + f = ln_n ln → ∀ M : MM, LaneR M 16 ln → SceneR M 34 (lowW i c w) → OnlyB 34 37 M0 M → (∀ j, j < ln_n ln → M 5 j = nI (w j)) → JW g mX5_isKeptFrom 5 (fun v M' L' => v = some (.int (bI (kepB ln c h t n w))) ∧ OnlyB 34 37 M0 M' ∧ L' = L) M L 14 [some (.ref (dq_A g 0)), some (.int (nI h)), some (.int (nI t)), some (.int (nI n)), some (.int (nI i))] [] := by
  have a1 := ok.1
  intro f
  induction f with
  | zero =>
    intro i hi M hL hS ho hW
    have e : i = ln_n ln := by omega
    subst e
    refine ro_iload dX5_isKeptFrom_14 rfl ?_
    refine ro_aload_n dX5_isKeptFrom_16 rfl rfl ?_
    refine gf_X5_told  in_X5_isKeptFrom_X5 lk_X5_isKeptFrom_38 dX5_isKeptFrom_17 ?_
    refine gf_X2_houses ln_16 in_X5_isKeptFrom_X2 lk_X5_isKeptFrom_93 dX5_isKeptFrom_20 ?_
    rw [hL.1]
    refine ro_icmp_ge 52 dX5_isKeptFrom_23 (by decide) (fun b23 => ?_) (fun b23 => ?_)
    · refine ro_aload_n dX5_isKeptFrom_52 rfl rfl ?_
      refine gf_X5_trial  in_X5_isKeptFrom_X5 lk_X5_isKeptFrom_56 dX5_isKeptFrom_53 ?_
      refine ro_iload_n dX5_isKeptFrom_56 rfl rfl ?_
      refine ro_callV1Q ok_X4_passHours (ct_passHours sc_34 hL ok hS (lowW_ok oc hw) (by omega)) (ce_X4 sc_34) rfl rfl gX5_isKeptFrom_X4_passHours (Nat.le_of_ble_eq_true rfl) (Nat.le_of_ble_eq_true rfl) dX5_isKeptFrom_57 (fun v57 M57 L57 q57 => ?_)
      obtain ⟨rfl, hS57, ho57, rfl⟩ := q57
      refine ro_aload_n dX5_isKeptFrom_60 rfl rfl ?_
      refine gf_X5_trial  in_X5_isKeptFrom_X5 lk_X5_isKeptFrom_56 dX5_isKeptFrom_61 ?_
      refine ro_iload_n dX5_isKeptFrom_64 rfl rfl ?_
      refine ro_iload_n dX5_isKeptFrom_65 rfl rfl ?_
      refine ro_callV2 ok_X4_knowsThing (ct_knowsThing sc_34 hS57 (hrsC_ok ok (lowW_ok oc hw) n).2.2.1 (by omega) ht) (ce_X4 sc_34) rfl rfl gX5_isKeptFrom_X4_knowsThing (Nat.le_of_ble_eq_true rfl) (Nat.le_of_ble_eq_true rfl) dX5_isKeptFrom_66 ?_
      refine ro_if_ne 76 dX5_isKeptFrom_69 (by decide) (fun b69 => ?_) (fun b69 => ?_)
      · rw [bI_ne0] at b69
        refine ro_iconst (v := 0) dX5_isKeptFrom_76 (by decide) ?_
        refine ro_zret rfl rfl dX5_isKeptFrom_77 ?_
        exact ⟨by unfold kepB; rw [b69]; rfl, ho.tr ho57, rfl⟩
      · rw [bI_eq0] at b69
        refine ro_iconst (v := 1) dX5_isKeptFrom_72 (by decide) ?_
        refine ro_goto 77 dX5_isKeptFrom_73 (by decide) ?_
        refine ro_zret rfl rfl dX5_isKeptFrom_77 ?_
        exact ⟨by unfold kepB; rw [b69]; rfl, ho.tr ho57, rfl⟩
    · exact absurd (nI_le (by omega) (by omega)) b23
  | succ f ih =>
    intro i hi M hL hS ho hW
    have hvi : sc_vo (lowW i c w) i = sc_vo c i := if_neg (Nat.lt_irrefl i)
    refine ro_iload dX5_isKeptFrom_14 rfl ?_
    refine ro_aload_n dX5_isKeptFrom_16 rfl rfl ?_
    refine gf_X5_told  in_X5_isKeptFrom_X5 lk_X5_isKeptFrom_38 dX5_isKeptFrom_17 ?_
    refine gf_X2_houses ln_16 in_X5_isKeptFrom_X2 lk_X5_isKeptFrom_93 dX5_isKeptFrom_20 ?_
    rw [hL.1]
    refine ro_icmp_ge 52 dX5_isKeptFrom_23 (by decide) (fun b23 => ?_) (fun b23 => ?_)
    · exact absurd b23 (nI_ge (by omega) (by omega))
    · refine ro_aload_n dX5_isKeptFrom_26 rfl rfl ?_
      refine gf_X5_trial  in_X5_isKeptFrom_X5 lk_X5_isKeptFrom_56 dX5_isKeptFrom_27 ?_
      refine gf_X4_voice sc_34 in_X5_isKeptFrom_X4 lk_X5_isKeptFrom_109 dX5_isKeptFrom_30 ?_
      refine ro_iload dX5_isKeptFrom_33 rfl ?_
      refine ro_dup2 dX5_isKeptFrom_35 rfl rfl ?_
      refine ro_ai (ar_s3 sc_34) rfl (by omega) dX5_isKeptFrom_36 ?_
      rw [hS.2.2.1 i (by omega)]
      refine ro_aload_n dX5_isKeptFrom_37 rfl rfl ?_
      refine gf_X5_lowerings  in_X5_isKeptFrom_X5 lk_X5_isKeptFrom_26 dX5_isKeptFrom_38 ?_
      refine ro_iload dX5_isKeptFrom_41 rfl ?_
      refine ro_ai ar_5 rfl (by omega) dX5_isKeptFrom_43 ?_
      rw [hW i (by omega)]
      refine ro_isub dX5_isKeptFrom_44 ?_
      refine ro_top (show _ = oI (sc_vo c i - (w i : Nat)) from by rw [hvi, nI_oI, oI_sub]) ?_
      refine ro_as (ar_s3 sc_34) rfl (by omega) dX5_isKeptFrom_45 (fun M45 e45 => ?_)
      refine ro_iincP4 dX5_isKeptFrom_46 (Nat.le_of_ble_eq_true rfl) rfl ?_
      refine ro_goto 14 dX5_isKeptFrom_49 (by decide) ?_
      rw [nI_1]
      refine ih (i + 1) (by omega) M45 (hL.kS sc_34 (OnlyB.up e45 (by decide) (by decide))) ?_ (ho.tr (OnlyB.up e45 (by decide) (by decide))) (fun j hj => by rw [e45, va_up_ne _ _ (by decide)]; exact hW j hj)
      refine ⟨fun j hj => ?_, fun j hj => ?_, fun j hj => ?_, ?_, ?_⟩
      · rw [e45, va_up_ne _ _ (by decide)]; exact hS.1 j hj
      · rw [e45, va_up_ne _ _ (by decide)]; exact hS.2.1 j hj
      · rw [e45, va_up_self]
        show upd (M 37) i (oI (sc_vo c i - (w i : Nat))) j = oI (if j < i + 1 then sc_vo c j - (w j : Nat) else sc_vo c j)
        by_cases hji : j = i
        · subst hji; rw [pk_us, if_pos (by omega)]
        · rw [pk_un hji, hS.2.2.1 j hj]
          show oI (if j < i then sc_vo c j - (w j : Nat) else sc_vo c j) = _
          by_cases z : j < i
          · rw [if_pos z, if_pos (by omega)]
          · rw [if_neg z, if_neg (by omega)]
      · rw [e45, va_up_ne _ _ (by decide)]; exact hS.2.2.2.1
      · rw [e45, va_up_ne _ _ (by decide)]; exact hS.2.2.2.2
theorem ct_kept {g : GT} {M : MM} {L : LL} {ln : LN} {b h t n : Nat} {c : SC} {w : Nat → Nat} (hL : LaneR M 16 ln) (ok : LnOK ln) (hS : SceneR M 30 c) (oc : ScOK (ln_n ln) b c) (hw : ∀ j, j < ln_n ln → w j ≤ mostW c j) (hW : ∀ j, j < ln_n ln → M 5 j = nI (w j)) (hh : h < ln_n ln) (ht : t < 6) (hn : n ≤ 12) (hb : b < 2 ^ 29) : CTQ g mX5_isKeptFrom 5 [.ref (dq_A g 0), .int (nI h), .int (nI t), .int (nI n)] M L (fun v M' L' => v = some (.int (bI (kepB ln c h t n w))) ∧ OnlyB 34 37 M M' ∧ L' = L) := by
  refine ct_of ok_X5_isKeptFrom (lv := [some (.ref (dq_A g 0)), some (.int (nI h)), some (.int (nI t)), some (.int (nI n)), none]) rfl (Nat.le_of_ble_eq_true rfl) ?_
  refine ro_aload_n dX5_isKeptFrom_0 rfl rfl ?_
  refine gf_X5_trial  in_X5_isKeptFrom_X5 lk_X5_isKeptFrom_56 dX5_isKeptFrom_1 ?_
  refine ro_aload_n dX5_isKeptFrom_4 rfl rfl ?_
  refine gf_X5_now  in_X5_isKeptFrom_X5 lk_X5_isKeptFrom_52 dX5_isKeptFrom_5 ?_
  refine ro_callV1Q ok_X4_take (ct_scTake sc_34 sc_30 (by omega) hS) (ce_X4 sc_34) rfl rfl gX5_isKeptFrom_X4_take (Nat.le_of_ble_eq_true rfl) (Nat.le_of_ble_eq_true rfl) dX5_isKeptFrom_8 (fun v8 M8 L8 q8 => ?_)
  obtain ⟨rfl, hS8, ho8, rfl⟩ := q8
  have hL8 := hL.kS sc_34 ho8
  refine ro_iconst (v := 0) dX5_isKeptFrom_11 (by decide) ?_
  refine ro_istore4 dX5_isKeptFrom_12 (Nat.le_of_ble_eq_true rfl) rfl ?_
  exact lp_kept (w := w) ok oc hw hh ht hn hb (ln_n ln) 0 (by omega) M8 hL8 ⟨hS8.1, hS8.2.1, fun j hj => (hS8.2.2.1 j hj).trans (congrArg oI (lowW_0 c w j).symm), hS8.2.2.2.1, hS8.2.2.2.2⟩ ho8 (fun j hj => by rw [ho8 5 (by omega)]; exact hW j hj)
theorem fe_87 {g : GT} {L : LL} {M : MM} {h t n i m : Nat} {x5 : Int32} {Q : Option Value → MM → LL → Prop} (K : JW g mX5_fillFewestLowerings 6 Q M L 123 [some (.ref (dq_A g 0)), some (.int (nI h)), some (.int (nI t)), some (.int (nI n)), some (.int (nI i)), some (.int x5), some (.int 1), some (.int (nI m))] []) : JW g mX5_fillFewestLowerings 6 Q M L 87 [some (.ref (dq_A g 0)), some (.int (nI h)), some (.int (nI t)), some (.int (nI n)), some (.int (nI i)), some (.int x5), some (.int 1), some (.int (nI m))] [] := by
  refine ro_iload dX5_fillFewestLowerings_87 rfl ?_
  refine ro_iload dX5_fillFewestLowerings_89 rfl ?_
  refine ro_icmp_gt 123 dX5_fillFewestLowerings_91 (by decide) (fun b91 => ?_) (fun b91 => ?_)
  · exact K
  · refine ro_iload dX5_fillFewestLowerings_94 rfl ?_
    refine ro_if_ne 123 dX5_fillFewestLowerings_96 (by decide) (fun b96 => ?_) (fun b96 => ?_)
    · exact K
    · exact absurd b96 (by decide)
theorem lp_inner {g : GT} {L : LL} {ln : LN} {b h t n : Nat} {c : SC} {M0 : MM} (ok : LnOK ln) (oc : ScOK (ln_n ln) b c) (hh : h < ln_n ln) (ht : t < 6) (hn : n ≤ 12) (hb : b < 2 ^ 29) {i mx : Nat} {w : Nat → Nat} {Q : Option Value → MM → LL → Prop} (hi : i < ln_n ln) (hmx : mx = mostW c i) (hw : ∀ j, w j ≤ mostW c j) (htop : kepB ln c h t n (va_up w i mx) = true) (K : ∀ (M' : MM) (m : Nat), OnlyK M0 M' → (∀ j, j < ln_n ln → M' 5 j = nI (va_up w i (lstM (fun m => kepB ln c h t n (va_up w i m)) mx 0) j)) → JW g mX5_fillFewestLowerings 6 Q M' L 123 [some (.ref (dq_A g 0)), some (.int (nI h)), some (.int (nI t)), some (.int (nI n)), some (.int (nI i)), some (.int (nI mx)), some (.int 1), some (.int (nI m))] []) : ∀ (f m : Nat), m + f = mx → ∀ M : MM, LaneR M 16 ln → SceneR M 30 c → OnlyK M0 M → (∀ j, j < ln_n ln → j ≠ i → M 5 j = nI (w j)) → lstM (fun m => kepB ln c h t n (va_up w i m)) mx 0 = lstM (fun m => kepB ln c h t n (va_up w i m)) f m → JW g mX5_fillFewestLowerings 6 Q M L 87 [some (.ref (dq_A g 0)), some (.int (nI h)), some (.int (nI t)), some (.int (nI n)), some (.int (nI i)), some (.int (nI mx)), some (.int 0), some (.int (nI m))] [] := by
  have a1 := ok.1
  have h3 := (most_le c i (oc.2.2.2.1 i).1).1
  intro f
  induction f with
  | zero =>
    intro m hm M hL hS ho hrow hl
    refine ro_iload dX5_fillFewestLowerings_87 rfl ?_
    refine ro_iload dX5_fillFewestLowerings_89 rfl ?_
    refine ro_icmp_gt 123 dX5_fillFewestLowerings_91 (by decide) (fun b91 => ?_) (fun b91 => ?_)
    · exact absurd b91 (nI_nlt (by omega) (by omega))
    · refine ro_iload dX5_fillFewestLowerings_94 rfl ?_
      refine ro_if_ne 123 dX5_fillFewestLowerings_96 (by decide) (fun b96 => ?_) (fun b96 => ?_)
      · exact absurd rfl b96
      · refine ro_aload_n dX5_fillFewestLowerings_99 rfl rfl ?_
        refine gf_X5_lowerings  in_X5_fillFewestLowerings_X5 lk_X5_fillFewestLowerings_26 dX5_fillFewestLowerings_100 ?_
        refine ro_iload dX5_fillFewestLowerings_103 rfl ?_
        refine ro_iload dX5_fillFewestLowerings_105 rfl ?_
        refine ro_as ar_5 rfl (by omega) dX5_fillFewestLowerings_107 (fun M107 e107 => ?_)
        have hw2 : ∀ j, j < ln_n ln → va_up w i m j ≤ mostW c j := fun j hj => by
          by_cases z : j = i
          · subst z; rw [va_up_self]; omega
          · rw [va_up_ne _ _ z]; exact hw j
        have hW2 : ∀ j, j < ln_n ln → M107 5 j = nI (va_up w i m j) := fun j hj => by
          rw [e107, va_up_self]
          unfold upd va_up
          by_cases z : j = i
          · rw [if_pos z, if_pos z]
          · rw [if_neg z, if_neg z]; exact hrow j hj z
        refine ro_aload_n dX5_fillFewestLowerings_108 rfl rfl ?_
        refine ro_iload_n dX5_fillFewestLowerings_109 rfl rfl ?_
        refine ro_iload_n dX5_fillFewestLowerings_110 rfl rfl ?_
        refine ro_iload_n dX5_fillFewestLowerings_111 rfl rfl ?_
        refine ro_callV3Q ok_X5_isKeptFrom (ct_kept (w := va_up w i m) (hL.keep (fun q a b => by rw [e107, va_up_ne _ _ (by omega)])) ok (hS.keep (fun q a b => by rw [e107, va_up_ne _ _ (by omega)])) oc hw2 hW2 hh ht hn hb) ce_X5 rfl rfl gX5_fillFewestLowerings_X5_isKeptFrom (Nat.le_of_ble_eq_true rfl) (Nat.le_of_ble_eq_true rfl) dX5_fillFewestLowerings_112 (fun v112 M112 L112 q112 => ?_)
        obtain ⟨rfl, ho112, rfl⟩ := q112
        have hk112 : OnlyK M0 M112 := (ho.tr (OnlyK.up e107)).tr (OnlyK.tri ho112)
        have hW3 : ∀ j, j < ln_n ln → M112 5 j = nI (va_up w i m j) := fun j hj => by rw [ho112 5 (by omega)]; exact hW2 j hj
        refine ro_istore6 dX5_fillFewestLowerings_115 (Nat.le_of_ble_eq_true rfl) rfl ?_
        refine ro_iincP7 dX5_fillFewestLowerings_117 (Nat.le_of_ble_eq_true rfl) rfl ?_
        refine ro_goto 87 dX5_fillFewestLowerings_120 (by decide) ?_
        have e : m = mx := by omega
        subst e
        rw [htop, nI_1]
        rw [show lstM (fun m => kepB ln c h t n (va_up w i m)) m 0 = m from hl] at K
        exact fe_87 (K M112 _ hk112 hW3)
  | succ f ih =>
    intro m hm M hL hS ho hrow hl
    refine ro_iload dX5_fillFewestLowerings_87 rfl ?_
    refine ro_iload dX5_fillFewestLowerings_89 rfl ?_
    refine ro_icmp_gt 123 dX5_fillFewestLowerings_91 (by decide) (fun b91 => ?_) (fun b91 => ?_)
    · exact absurd b91 (nI_nlt (by omega) (by omega))
    · refine ro_iload dX5_fillFewestLowerings_94 rfl ?_
      refine ro_if_ne 123 dX5_fillFewestLowerings_96 (by decide) (fun b96 => ?_) (fun b96 => ?_)
      · exact absurd rfl b96
      · refine ro_aload_n dX5_fillFewestLowerings_99 rfl rfl ?_
        refine gf_X5_lowerings  in_X5_fillFewestLowerings_X5 lk_X5_fillFewestLowerings_26 dX5_fillFewestLowerings_100 ?_
        refine ro_iload dX5_fillFewestLowerings_103 rfl ?_
        refine ro_iload dX5_fillFewestLowerings_105 rfl ?_
        refine ro_as ar_5 rfl (by omega) dX5_fillFewestLowerings_107 (fun M107 e107 => ?_)
        have hw2 : ∀ j, j < ln_n ln → va_up w i m j ≤ mostW c j := fun j hj => by
          by_cases z : j = i
          · subst z; rw [va_up_self]; omega
          · rw [va_up_ne _ _ z]; exact hw j
        have hW2 : ∀ j, j < ln_n ln → M107 5 j = nI (va_up w i m j) := fun j hj => by
          rw [e107, va_up_self]
          unfold upd va_up
          by_cases z : j = i
          · rw [if_pos z, if_pos z]
          · rw [if_neg z, if_neg z]; exact hrow j hj z
        refine ro_aload_n dX5_fillFewestLowerings_108 rfl rfl ?_
        refine ro_iload_n dX5_fillFewestLowerings_109 rfl rfl ?_
        refine ro_iload_n dX5_fillFewestLowerings_110 rfl rfl ?_
        refine ro_iload_n dX5_fillFewestLowerings_111 rfl rfl ?_
        refine ro_callV3Q ok_X5_isKeptFrom (ct_kept (w := va_up w i m) (hL.keep (fun q a b => by rw [e107, va_up_ne _ _ (by omega)])) ok (hS.keep (fun q a b => by rw [e107, va_up_ne _ _ (by omega)])) oc hw2 hW2 hh ht hn hb) ce_X5 rfl rfl gX5_fillFewestLowerings_X5_isKeptFrom (Nat.le_of_ble_eq_true rfl) (Nat.le_of_ble_eq_true rfl) dX5_fillFewestLowerings_112 (fun v112 M112 L112 q112 => ?_)
        obtain ⟨rfl, ho112, rfl⟩ := q112
        have hk112 : OnlyK M0 M112 := (ho.tr (OnlyK.up e107)).tr (OnlyK.tri ho112)
        have hW3 : ∀ j, j < ln_n ln → M112 5 j = nI (va_up w i m j) := fun j hj => by rw [ho112 5 (by omega)]; exact hW2 j hj
        refine ro_istore6 dX5_fillFewestLowerings_115 (Nat.le_of_ble_eq_true rfl) rfl ?_
        refine ro_iincP7 dX5_fillFewestLowerings_117 (Nat.le_of_ble_eq_true rfl) rfl ?_
        refine ro_goto 87 dX5_fillFewestLowerings_120 (by decide) ?_
        rw [nI_1]
        by_cases hp : kepB ln c h t n (va_up w i m) = true
        · rw [hp]
          rw [show lstM (fun m => kepB ln c h t n (va_up w i m)) mx 0 = m from hl.trans (if_pos hp)] at K
          exact fe_87 (K M112 _ hk112 hW3)
        · rw [Bool.eq_false_iff.mpr hp]
          exact ih (m + 1) (by omega) M112 (hL.keep (fun q a b => by rw [ho112 q (by omega), e107, va_up_ne _ _ (by omega)])) (hS.keep (fun q a b => by rw [ho112 q (by omega), e107, va_up_ne _ _ (by omega)])) hk112 (fun j hj z => by rw [hW3 j hj, va_up_ne _ _ z]) (hl.trans (if_neg hp))
theorem lp_outer {g : GT} {L : LL} {ln : LN} {b h t n : Nat} {c : SC} {M0 : MM} (ok : LnOK ln) (oc : ScOK (ln_n ln) b c) (hh : h < ln_n ln) (ht : t < 6) (hn : n ≤ 12) (hb : b < 2 ^ 29) (hL0 : LaneR M0 16 ln) (hS0 : SceneR M0 30 c) (hK : kepB ln c h t n (mostW c) = true) : ∀ (f i : Nat), i + f = ln_n ln → ∀ M : MM, LaneR M 16 ln → SceneR M 30 c → OnlyK M0 M → (∀ j, j < ln_n ln → M 5 j = nI (seqW (kepB ln c h t n) (mostW c) i j)) → ∀ x5 x6 x7 : Option Value, JW g mX5_fillFewestLowerings 6 (fun v M' L' => ∃ r : Bool, v = some (.int (bI r)) ∧ r = kepB ln c h t n (mostW c) ∧ (r = true → ∀ j, j < ln_n ln → M' 5 j = nI (seqW (kepB ln c h t n) (mostW c) (ln_n ln) j)) ∧ OnlyK M0 M' ∧ L' = L) M L 60 [some (.ref (dq_A g 0)), some (.int (nI h)), some (.int (nI t)), some (.int (nI n)), some (.int (nI i)), x5, x6, x7] [] := by
  have a1 := ok.1
  intro f
  induction f with
  | zero =>
    intro i hi M hL hS ho hrow x5 x6 x7
    refine ro_iload dX5_fillFewestLowerings_60 rfl ?_
    refine ro_aload_n dX5_fillFewestLowerings_62 rfl rfl ?_
    refine gf_X5_told  in_X5_fillFewestLowerings_X5 lk_X5_fillFewestLowerings_38 dX5_fillFewestLowerings_63 ?_
    refine gf_X2_houses ln_16 in_X5_fillFewestLowerings_X2 lk_X5_fillFewestLowerings_93 dX5_fillFewestLowerings_66 ?_
    rw [hL.1]
    refine ro_icmp_ge 129 dX5_fillFewestLowerings_69 (by decide) (fun b69 => ?_) (fun b69 => ?_)
    · refine ro_iconst (v := 1) dX5_fillFewestLowerings_129 (by decide) ?_
      refine ro_zret rfl rfl dX5_fillFewestLowerings_130 ?_
      have e : i = ln_n ln := by omega
      subst e
      exact ⟨true, rfl, hK.symm, fun _ => hrow, ho, rfl⟩
    · exact absurd (nI_le (by omega) (by omega)) b69
  | succ f ih =>
    intro i hi M hL hS ho hrow x5 x6 x7
    refine ro_iload dX5_fillFewestLowerings_60 rfl ?_
    refine ro_aload_n dX5_fillFewestLowerings_62 rfl rfl ?_
    refine gf_X5_told  in_X5_fillFewestLowerings_X5 lk_X5_fillFewestLowerings_38 dX5_fillFewestLowerings_63 ?_
    refine gf_X2_houses ln_16 in_X5_fillFewestLowerings_X2 lk_X5_fillFewestLowerings_93 dX5_fillFewestLowerings_66 ?_
    rw [hL.1]
    refine ro_icmp_ge 129 dX5_fillFewestLowerings_69 (by decide) (fun b69 => ?_) (fun b69 => ?_)
    · exact absurd b69 (nI_ge (by omega) (by omega))
    · refine ro_aload_n dX5_fillFewestLowerings_72 rfl rfl ?_
      refine gf_X5_lowerings  in_X5_fillFewestLowerings_X5 lk_X5_fillFewestLowerings_26 dX5_fillFewestLowerings_73 ?_
      refine ro_iload dX5_fillFewestLowerings_76 rfl ?_
      refine ro_ai ar_5 rfl (by omega) dX5_fillFewestLowerings_78 ?_
      rw [hrow i (by omega), seqW_hi (kepB ln c h t n) (mostW c) i i (Nat.le_refl _)]
      refine ro_istore5 dX5_fillFewestLowerings_79 (Nat.le_of_ble_eq_true rfl) rfl ?_
      refine ro_iconst (v := 0) dX5_fillFewestLowerings_81 (by decide) ?_
      refine ro_istore6 dX5_fillFewestLowerings_82 (Nat.le_of_ble_eq_true rfl) rfl ?_
      refine ro_iconst (v := 0) dX5_fillFewestLowerings_84 (by decide) ?_
      refine ro_istore7 dX5_fillFewestLowerings_85 (Nat.le_of_ble_eq_true rfl) rfl ?_
      have hsq := seqW_ok hK i
      refine lp_inner (M0 := M0) (w := seqW (kepB ln c h t n) (mostW c) i) ok oc hh ht hn hb (by omega) rfl hsq.2 ?_ ?_ (mostW c i) 0 (by omega) M hL hS ho (fun j hj _ => hrow j hj) rfl
      · rw [← seqW_hi (kepB ln c h t n) (mostW c) i i (Nat.le_refl _), va_up_id]; exact hsq.1
      · intro M' m hk' hr'
        refine ro_iincP4 dX5_fillFewestLowerings_123 (Nat.le_of_ble_eq_true rfl) rfl ?_
        refine ro_goto 60 dX5_fillFewestLowerings_126 (by decide) ?_
        rw [nI_1]
        exact ih (i + 1) (by omega) M' (hL0.keep (fun q a b => hk' q (by omega) (by omega))) (hS0.keep (fun q a b => hk' q (by omega) (by omega))) hk' hr' _ _ _
theorem lp_most {g : GT} {L : LL} {ln : LN} {b h t n : Nat} {c : SC} {M0 : MM} (ok : LnOK ln) (oc : ScOK (ln_n ln) b c) (hh : h < ln_n ln) (ht : t < 6) (hn : n ≤ 12) (hb : b < 2 ^ 29) (hL0 : LaneR M0 16 ln) (hS0 : SceneR M0 30 c) : ∀ (f i : Nat), i + f = ln_n ln → ∀ M : MM, LaneR M 16 ln → SceneR M 30 c → OnlyK M0 M → (∀ j, j < i → M 5 j = nI (mostW c j)) → JW g mX5_fillFewestLowerings 6 (fun v M' L' => ∃ r : Bool, v = some (.int (bI r)) ∧ r = kepB ln c h t n (mostW c) ∧ (r = true → ∀ j, j < ln_n ln → M' 5 j = nI (seqW (kepB ln c h t n) (mostW c) (ln_n ln) j)) ∧ OnlyK M0 M' ∧ L' = L) M L 3 [some (.ref (dq_A g 0)), some (.int (nI h)), some (.int (nI t)), some (.int (nI n)), some (.int (nI i)), none, none, none] [] := by
  have a1 := ok.1
  intro f
  induction f with
  | zero =>
    intro i hi M hL hS ho hrow
    refine ro_iload dX5_fillFewestLowerings_3 rfl ?_
    refine ro_aload_n dX5_fillFewestLowerings_5 rfl rfl ?_
    refine gf_X5_told  in_X5_fillFewestLowerings_X5 lk_X5_fillFewestLowerings_38 dX5_fillFewestLowerings_6 ?_
    refine gf_X2_houses ln_16 in_X5_fillFewestLowerings_X2 lk_X5_fillFewestLowerings_93 dX5_fillFewestLowerings_9 ?_
    rw [hL.1]
    refine ro_icmp_ge 45 dX5_fillFewestLowerings_12 (by decide) (fun b12 => ?_) (fun b12 => ?_)
    · refine ro_aload_n dX5_fillFewestLowerings_45 rfl rfl ?_
      refine ro_iload_n dX5_fillFewestLowerings_46 rfl rfl ?_
      refine ro_iload_n dX5_fillFewestLowerings_47 rfl rfl ?_
      refine ro_iload_n dX5_fillFewestLowerings_48 rfl rfl ?_
      refine ro_callV3Q ok_X5_isKeptFrom (ct_kept (w := mostW c) hL ok hS oc (fun j _ => Nat.le_refl _) (fun j hj => hrow j (by omega)) hh ht hn hb) ce_X5 rfl rfl gX5_fillFewestLowerings_X5_isKeptFrom (Nat.le_of_ble_eq_true rfl) (Nat.le_of_ble_eq_true rfl) dX5_fillFewestLowerings_49 (fun v49 M49 L49 q49 => ?_)
      obtain ⟨rfl, ho49, rfl⟩ := q49
      refine ro_if_ne 57 dX5_fillFewestLowerings_52 (by decide) (fun b52 => ?_) (fun b52 => ?_)
      · rw [bI_ne0] at b52
        refine ro_iconst (v := 0) dX5_fillFewestLowerings_57 (by decide) ?_
        refine ro_istore4 dX5_fillFewestLowerings_58 (Nat.le_of_ble_eq_true rfl) rfl ?_
        have hk49 := ho.tr (OnlyK.tri ho49)
        exact lp_outer ok oc hh ht hn hb hL0 hS0 b52 (ln_n ln) 0 (by omega) M49 (hL0.keep (fun q a b => hk49 q (by omega) (by omega))) (hS0.keep (fun q a b => hk49 q (by omega) (by omega))) hk49 (fun j hj => by rw [ho49 5 (by omega)]; exact hrow j (by omega)) _ _ _
      · rw [bI_eq0] at b52
        refine ro_iconst (v := 0) dX5_fillFewestLowerings_55 (by decide) ?_
        refine ro_zret rfl rfl dX5_fillFewestLowerings_56 ?_
        exact ⟨false, rfl, b52.symm, fun z => absurd z (by decide), ho.tr (OnlyK.tri ho49), rfl⟩
    · exact absurd (nI_le (by omega) (by omega)) b12
  | succ f ih =>
    intro i hi M hL hS ho hrow
    refine ro_iload dX5_fillFewestLowerings_3 rfl ?_
    refine ro_aload_n dX5_fillFewestLowerings_5 rfl rfl ?_
    refine gf_X5_told  in_X5_fillFewestLowerings_X5 lk_X5_fillFewestLowerings_38 dX5_fillFewestLowerings_6 ?_
    refine gf_X2_houses ln_16 in_X5_fillFewestLowerings_X2 lk_X5_fillFewestLowerings_93 dX5_fillFewestLowerings_9 ?_
    rw [hL.1]
    refine ro_icmp_ge 45 dX5_fillFewestLowerings_12 (by decide) (fun b12 => ?_) (fun b12 => ?_)
    · exact absurd b12 (nI_ge (by omega) (by omega))
    · refine ro_aload_n dX5_fillFewestLowerings_15 rfl rfl ?_
      refine gf_X5_lowerings  in_X5_fillFewestLowerings_X5 lk_X5_fillFewestLowerings_26 dX5_fillFewestLowerings_16 ?_
      refine ro_iload dX5_fillFewestLowerings_19 rfl ?_
      refine ro_iconst (v := 3) dX5_fillFewestLowerings_21 (by decide) ?_
      refine ro_aload_n dX5_fillFewestLowerings_22 rfl rfl ?_
      refine gf_X5_now  in_X5_fillFewestLowerings_X5 lk_X5_fillFewestLowerings_52 dX5_fillFewestLowerings_23 ?_
      refine gf_X4_voice sc_30 in_X5_fillFewestLowerings_X4 lk_X5_fillFewestLowerings_109 dX5_fillFewestLowerings_26 ?_
      refine ro_iload dX5_fillFewestLowerings_29 rfl ?_
      refine ro_ai (ar_s3 sc_30) rfl (by omega) dX5_fillFewestLowerings_31 ?_
      rw [hS.2.2.1 i (by omega)]
      refine ro_bipush (v := -3) dX5_fillFewestLowerings_32 (by decide) ?_
      refine ro_isub dX5_fillFewestLowerings_34 ?_
      refine ro_top (show _ = oI (sc_vo c i + 3) from by rw [show (-3 : Int32) = oI (-3) from rfl, oI_sub]; congr 1) ?_
      refine ro_min lk_X5_fillFewestLowerings_282 dX5_fillFewestLowerings_35 ?_
      refine ro_top (w := nI (mostW c i)) ?_ ?_
      · have hv := oc.2.2.2.1 i
        have q : oI (sc_vo c i + 3) < (3 : Int32) ↔ sc_vo c i + 3 < 3 := oI_lt (b := 3) (by omega) (by omega) (by omega) (by omega)
        unfold mostW
        by_cases z : sc_vo c i + 3 < 3
        · rw [if_pos z, if_pos (q.mpr z), nI_oI]; congr 1; omega
        · rw [if_neg z, if_neg (fun y => z (q.mp y))]; rfl
      refine ro_as ar_5 rfl (by omega) dX5_fillFewestLowerings_38 (fun M38 e38 => ?_)
      refine ro_iincP4 dX5_fillFewestLowerings_39 (Nat.le_of_ble_eq_true rfl) rfl ?_
      refine ro_goto 3 dX5_fillFewestLowerings_42 (by decide) ?_
      rw [nI_1]
      have hk38 := ho.tr (OnlyK.up e38)
      exact ih (i + 1) (by omega) M38 (hL0.keep (fun q a b => hk38 q (by omega) (by omega))) (hS0.keep (fun q a b => hk38 q (by omega) (by omega))) hk38 (by rw [e38, va_up_self]; intro j hj; by_cases z : j = i; (subst z; exact pk_us); (rw [pk_un z]; exact hrow j (by omega)))
theorem ct_fewest {g : GT} {M : MM} {L : LL} {ln : LN} {b h t n : Nat} {c : SC} (hL : LaneR M 16 ln) (ok : LnOK ln) (hS : SceneR M 30 c) (oc : ScOK (ln_n ln) b c) (hh : h < ln_n ln) (ht : t < 6) (hn : n ≤ 12) (hb : b < 2 ^ 29) : CTQ g mX5_fillFewestLowerings 6 [.ref (dq_A g 0), .int (nI h), .int (nI t), .int (nI n)] M L (fun v M' L' => ∃ r : Bool, v = some (.int (bI r)) ∧ r = kepB ln c h t n (mostW c) ∧ (r = true → ∀ j, j < ln_n ln → M' 5 j = nI (seqW (kepB ln c h t n) (mostW c) (ln_n ln) j)) ∧ OnlyK M M' ∧ L' = L) := by
  refine ct_of ok_X5_fillFewestLowerings (lv := [some (.ref (dq_A g 0)), some (.int (nI h)), some (.int (nI t)), some (.int (nI n)), none, none, none, none]) rfl (Nat.le_of_ble_eq_true rfl) ?_
  refine ro_iconst (v := 0) dX5_fillFewestLowerings_0 (by decide) ?_
  refine ro_istore4 dX5_fillFewestLowerings_1 (Nat.le_of_ble_eq_true rfl) rfl ?_
  exact lp_most ok oc hh ht hn hb hL hS (ln_n ln) 0 (by omega) M hL hS OnlyK.rf (fun j hj => absurd hj (Nat.not_lt_zero j))
def figF (w : Nat → Nat) : Nat → Nat
  | 0 => 0
  | i + 1 => 10 * figF w i + w i
theorem lp_sumL {g : GT} {M : MM} {L : LL} {ln : LN} {w : Nat → Nat} (hL : LaneR M 16 ln) (ok : LnOK ln) (hW : ∀ j, j < ln_n ln → M 5 j = nI (w j)) : ∀ (f i : Nat), i + f = ln_n ln → JW g mX5_sumOfLowerings 0 (Rt (some (.int (nI (smB w (ln_n ln))))) M L) M L 4 [some (.ref (dq_A g 0)), some (.int (nI (smB w i))), some (.int (nI i))] [] := by
  have a1 := ok.1
  intro f
  induction f with
  | zero =>
    intro i hi
    refine ro_iload_n dX5_sumOfLowerings_4 rfl rfl ?_
    refine ro_aload_n dX5_sumOfLowerings_5 rfl rfl ?_
    refine gf_X5_told  in_X5_sumOfLowerings_X5 lk_X5_sumOfLowerings_38 dX5_sumOfLowerings_6 ?_
    refine gf_X2_houses ln_16 in_X5_sumOfLowerings_X2 lk_X5_sumOfLowerings_93 dX5_sumOfLowerings_9 ?_
    rw [hL.1]
    refine ro_icmp_ge 30 dX5_sumOfLowerings_12 (by decide) (fun b12 => ?_) (fun b12 => ?_)
    · refine ro_iload_n dX5_sumOfLowerings_30 rfl rfl ?_
      refine ro_iret rfl dX5_sumOfLowerings_31 ?_
      exact ⟨by rw [show i = ln_n ln by omega], rfl, rfl⟩
    · exact absurd (nI_le (by omega) (by omega)) b12
  | succ f ih =>
    intro i hi
    refine ro_iload_n dX5_sumOfLowerings_4 rfl rfl ?_
    refine ro_aload_n dX5_sumOfLowerings_5 rfl rfl ?_
    refine gf_X5_told  in_X5_sumOfLowerings_X5 lk_X5_sumOfLowerings_38 dX5_sumOfLowerings_6 ?_
    refine gf_X2_houses ln_16 in_X5_sumOfLowerings_X2 lk_X5_sumOfLowerings_93 dX5_sumOfLowerings_9 ?_
    rw [hL.1]
    refine ro_icmp_ge 30 dX5_sumOfLowerings_12 (by decide) (fun b12 => ?_) (fun b12 => ?_)
    · exact absurd b12 (nI_ge (by omega) (by omega))
    · refine ro_iload_n dX5_sumOfLowerings_15 rfl rfl ?_
      refine ro_aload_n dX5_sumOfLowerings_16 rfl rfl ?_
      refine gf_X5_lowerings  in_X5_sumOfLowerings_X5 lk_X5_sumOfLowerings_26 dX5_sumOfLowerings_17 ?_
      refine ro_iload_n dX5_sumOfLowerings_20 rfl rfl ?_
      refine ro_ai ar_5 rfl (by omega) dX5_sumOfLowerings_21 ?_
      rw [hW i (by omega)]
      refine ro_iadd dX5_sumOfLowerings_22 ?_
      rw [nI_add]
      refine ro_istore_n1 dX5_sumOfLowerings_23 (Nat.le_of_ble_eq_true rfl) rfl ?_
      refine ro_iincP2 dX5_sumOfLowerings_24 (Nat.le_of_ble_eq_true rfl) rfl ?_
      refine ro_goto 4 dX5_sumOfLowerings_27 (by decide) ?_
      rw [nI_1]
      exact ih (i + 1) (by omega)
theorem ct_sumL {g : GT} {M : MM} {L : LL} {ln : LN} {w : Nat → Nat} (hL : LaneR M 16 ln) (ok : LnOK ln) (hW : ∀ j, j < ln_n ln → M 5 j = nI (w j)) : CT g mX5_sumOfLowerings 0 [.ref (dq_A g 0)] M L (some (.int (nI (smB w (ln_n ln))))) M L := by
  refine ct_of ok_X5_sumOfLowerings (lv := [some (.ref (dq_A g 0)), none, none]) rfl (Nat.le_of_ble_eq_true rfl) ?_
  refine ro_iconst (v := 0) dX5_sumOfLowerings_0 (by decide) ?_
  refine ro_istore_n1 dX5_sumOfLowerings_1 (Nat.le_of_ble_eq_true rfl) rfl ?_
  refine ro_iconst (v := 0) dX5_sumOfLowerings_2 (by decide) ?_
  refine ro_istore_n2 dX5_sumOfLowerings_3 (Nat.le_of_ble_eq_true rfl) rfl ?_
  exact lp_sumL hL ok hW (ln_n ln) 0 (by omega)
theorem lp_figL {g : GT} {M : MM} {L : LL} {ln : LN} {w : Nat → Nat} (hL : LaneR M 16 ln) (ok : LnOK ln) (hW : ∀ j, j < ln_n ln → M 5 j = nI (w j)) : ∀ (f i : Nat), i + f = ln_n ln → JW g mX5_figuresOfLowerings 0 (Rt (some (.int (nI (figF w (ln_n ln))))) M L) M L 4 [some (.ref (dq_A g 0)), some (.int (nI (figF w i))), some (.int (nI i))] [] := by
  have a1 := ok.1
  intro f
  induction f with
  | zero =>
    intro i hi
    refine ro_iload_n dX5_figuresOfLowerings_4 rfl rfl ?_
    refine ro_aload_n dX5_figuresOfLowerings_5 rfl rfl ?_
    refine gf_X5_told  in_X5_figuresOfLowerings_X5 lk_X5_figuresOfLowerings_38 dX5_figuresOfLowerings_6 ?_
    refine gf_X2_houses ln_16 in_X5_figuresOfLowerings_X2 lk_X5_figuresOfLowerings_93 dX5_figuresOfLowerings_9 ?_
    rw [hL.1]
    refine ro_icmp_ge 33 dX5_figuresOfLowerings_12 (by decide) (fun b12 => ?_) (fun b12 => ?_)
    · refine ro_iload_n dX5_figuresOfLowerings_33 rfl rfl ?_
      refine ro_iret rfl dX5_figuresOfLowerings_34 ?_
      exact ⟨by rw [show i = ln_n ln by omega], rfl, rfl⟩
    · exact absurd (nI_le (by omega) (by omega)) b12
  | succ f ih =>
    intro i hi
    refine ro_iload_n dX5_figuresOfLowerings_4 rfl rfl ?_
    refine ro_aload_n dX5_figuresOfLowerings_5 rfl rfl ?_
    refine gf_X5_told  in_X5_figuresOfLowerings_X5 lk_X5_figuresOfLowerings_38 dX5_figuresOfLowerings_6 ?_
    refine gf_X2_houses ln_16 in_X5_figuresOfLowerings_X2 lk_X5_figuresOfLowerings_93 dX5_figuresOfLowerings_9 ?_
    rw [hL.1]
    refine ro_icmp_ge 33 dX5_figuresOfLowerings_12 (by decide) (fun b12 => ?_) (fun b12 => ?_)
    · exact absurd b12 (nI_ge (by omega) (by omega))
    · refine ro_bipush (v := 10) dX5_figuresOfLowerings_15 (by decide) ?_
      refine ro_iload_n dX5_figuresOfLowerings_17 rfl rfl ?_
      refine ro_imul dX5_figuresOfLowerings_18 ?_
      refine ro_aload_n dX5_figuresOfLowerings_19 rfl rfl ?_
      refine gf_X5_lowerings  in_X5_figuresOfLowerings_X5 lk_X5_figuresOfLowerings_26 dX5_figuresOfLowerings_20 ?_
      refine ro_iload_n dX5_figuresOfLowerings_23 rfl rfl ?_
      refine ro_ai ar_5 rfl (by omega) dX5_figuresOfLowerings_24 ?_
      rw [hW i (by omega)]
      refine ro_iadd dX5_figuresOfLowerings_25 ?_
      rw [show (10 : Int32) = nI 10 from rfl, pk_mul, nI_add]
      refine ro_istore_n1 dX5_figuresOfLowerings_26 (Nat.le_of_ble_eq_true rfl) rfl ?_
      refine ro_iincP2 dX5_figuresOfLowerings_27 (Nat.le_of_ble_eq_true rfl) rfl ?_
      refine ro_goto 4 dX5_figuresOfLowerings_30 (by decide) ?_
      rw [nI_1]
      exact ih (i + 1) (by omega)
theorem ct_figL {g : GT} {M : MM} {L : LL} {ln : LN} {w : Nat → Nat} (hL : LaneR M 16 ln) (ok : LnOK ln) (hW : ∀ j, j < ln_n ln → M 5 j = nI (w j)) : CT g mX5_figuresOfLowerings 0 [.ref (dq_A g 0)] M L (some (.int (nI (figF w (ln_n ln))))) M L := by
  refine ct_of ok_X5_figuresOfLowerings (lv := [some (.ref (dq_A g 0)), none, none]) rfl (Nat.le_of_ble_eq_true rfl) ?_
  refine ro_iconst (v := 0) dX5_figuresOfLowerings_0 (by decide) ?_
  refine ro_istore_n1 dX5_figuresOfLowerings_1 (Nat.le_of_ble_eq_true rfl) rfl ?_
  refine ro_iconst (v := 0) dX5_figuresOfLowerings_2 (by decide) ?_
  refine ro_istore_n2 dX5_figuresOfLowerings_3 (Nat.le_of_ble_eq_true rfl) rfl ?_
  exact lp_figL hL ok hW (ln_n ln) 0 (by omega)
def kpW (l : LN) (c : SC) (h t n : Nat) : Nat → Nat := seqW (kepB l c h t n) (mostW c) (ln_n l)
def sp_keeps (S : ST) (x y m q : Int32) : Int32 × ST := (if hB (ln_n (st_l S)) x = true ∧ hB 6 y = true then (if m < 1 ∨ 12 < m ∨ zo q = false then -2 else if kepB (st_l S) (st_c S) (kx x) (kx y) (kx m) (mostW (st_c S)) = true then (if q = 0 then nI (smB (kpW (st_l S) (st_c S) (kx x) (kx y) (kx m)) (ln_n (st_l S))) else nI (figF (kpW (st_l S) (st_c S) (kx x) (kx y) (kx m)) (ln_n (st_l S)))) else -9) else -1, S)
theorem ct_keeps {g : GT} {M : MM} {L : LL} {S : ST} {b : Nat} {x y m q : Int32} (h : RC M L S) (ok : StOK b S) : CTQ g mX5_keeps 7 [.ref (dq_A g 0), .int x, .int y, .int m, .int q] M L (QC M L (sp_keeps S x y m q)) := by
  have hL := h.2.2.1
  have hS := h.2.2.2.1
  have hA := h.2.2.2.2.1
  have okl := ok.2.2.1
  have oc := ok.2.2.2.1
  have a1 := okl.1
  have hb := ok.2.2.2.2.2.2.2
  have h64 := ok.1
  refine ct_of ok_X5_keeps (lv := [some (.ref (dq_A g 0)), some (.int x), some (.int y), some (.int m), some (.int q)]) rfl (Nat.le_of_ble_eq_true rfl) ?_
  refine ro_aload_n dX5_keeps_0 rfl rfl ?_
  refine gf_X5_told  in_X5_keeps_X5 lk_X5_keeps_38 dX5_keeps_1 ?_
  refine ro_iload_n dX5_keeps_4 rfl rfl ?_
  refine ro_callV1 ok_X2_hasHouse (ct_hasHouse ln_16 hL.1 x) (ce_X2 ln_16) rfl rfl gX5_keeps_X2_hasHouse (Nat.le_of_ble_eq_true rfl) (Nat.le_of_ble_eq_true rfl) dX5_keeps_5 ?_
  refine ro_if_eq 18 dX5_keeps_8 (by decide) (fun b8 => ?_) (fun b8 => ?_)
  · rw [bI_eq0] at b8
    refine ro_iconst (v := -1) dX5_keeps_18 (by decide) ?_
    refine ro_iret rfl dX5_keeps_19 ?_
    rw [show sp_keeps S x y m q = (-1, S) from by unfold sp_keeps; rw [if_neg (fun z => by first | (rw [b8] at z; exact absurd z.1 (by decide)) | (rw [b15] at z; exact absurd z.2 (by decide)))]]
    exact ⟨rfl, h, OnlySc.rf.all, rfl⟩
  · rw [bI_ne0] at b8
    refine ro_iload_n dX5_keeps_11 rfl rfl ?_
    refine ro_callS1 ok_X5_isThing (ct_isThing y) gX5_keeps_X5_isThing (Nat.le_of_ble_eq_true rfl) (Nat.le_of_ble_eq_true rfl) dX5_keeps_12 ?_
    refine ro_if_ne 20 dX5_keeps_15 (by decide) (fun b15 => ?_) (fun b15 => ?_)
    · rw [bI_ne0] at b15
      obtain ⟨k, hk, rfl⟩ := hB_some (by omega) b8
      obtain ⟨t, ht, rfl⟩ := hB_some (by omega) b15
      refine ro_iload_n dX5_keeps_20 rfl rfl ?_
      refine ro_iconst (v := 1) dX5_keeps_21 (by decide) ?_
      refine ro_icmp_lt 39 dX5_keeps_22 (by decide) (fun b22 => ?_) (fun b22 => ?_)
      · refine ro_bipush (v := -2) dX5_keeps_39 (by decide) ?_
        refine ro_iret rfl dX5_keeps_41 ?_
        rw [show sp_keeps S (nI k) (nI t) m q = (-2, S) from by unfold sp_keeps; rw [if_pos ⟨b8, b15⟩, if_pos (by first | exact Or.inl b22 | exact Or.inr (Or.inl b28) | exact Or.inr (Or.inr b36))]]
        exact ⟨rfl, h, OnlySc.rf.all, rfl⟩
      · refine ro_iload_n dX5_keeps_25 rfl rfl ?_
        refine ro_bipush (v := 12) dX5_keeps_26 (by decide) ?_
        refine ro_icmp_gt 39 dX5_keeps_28 (by decide) (fun b28 => ?_) (fun b28 => ?_)
        · refine ro_bipush (v := -2) dX5_keeps_39 (by decide) ?_
          refine ro_iret rfl dX5_keeps_41 ?_
          rw [show sp_keeps S (nI k) (nI t) m q = (-2, S) from by unfold sp_keeps; rw [if_pos ⟨b8, b15⟩, if_pos (by first | exact Or.inl b22 | exact Or.inr (Or.inl b28) | exact Or.inr (Or.inr b36))]]
          exact ⟨rfl, h, OnlySc.rf.all, rfl⟩
        · refine ro_iload dX5_keeps_31 rfl ?_
          refine ro_callS1 ok_X5_isZeroOrOne (ct_zo q) gX5_keeps_X5_isZeroOrOne (Nat.le_of_ble_eq_true rfl) (Nat.le_of_ble_eq_true rfl) dX5_keeps_33 ?_
          refine ro_if_ne 42 dX5_keeps_36 (by decide) (fun b36 => ?_) (fun b36 => ?_)
          · rw [bI_ne0] at b36
            obtain ⟨n, hn, rfl⟩ := nI_of2 (x := m) (M := 12) (n := 12) rfl (fun z => b22 (Int32.lt_trans z (by decide))) (Int32.not_lt.mp b28)
            refine ro_aload_n dX5_keeps_42 rfl rfl ?_
            refine ro_iload_n dX5_keeps_43 rfl rfl ?_
            refine ro_iload_n dX5_keeps_44 rfl rfl ?_
            refine ro_iload_n dX5_keeps_45 rfl rfl ?_
            refine ro_callV3Q ok_X5_fillFewestLowerings (ct_fewest hL okl hS oc hk ht hn (by omega)) ce_X5 rfl rfl gX5_keeps_X5_fillFewestLowerings (Nat.le_of_ble_eq_true rfl) (Nat.le_of_ble_eq_true rfl) dX5_keeps_46 (fun v46 M46 L46 q46 => ?_)
            obtain ⟨r46, rfl, hr46, hw46, ho46, rfl⟩ := q46
            refine ro_if_ne 55 dX5_keeps_49 (by decide) (fun b49 => ?_) (fun b49 => ?_)
            · rw [bI_ne0] at b49
              have hkep := hr46.symm.trans b49
              have hW46 := hw46 b49
              have hL46 : LaneR M46 16 (st_l S) := hL.keep (fun i a b => ho46 i (by omega) (by omega))
              refine ro_iload dX5_keeps_55 rfl ?_
              refine ro_if_ne 67 dX5_keeps_57 (by decide) (fun b57 => ?_) (fun b57 => ?_)
              · refine ro_aload_n dX5_keeps_67 rfl rfl ?_
                refine ro_callV0 ok_X5_figuresOfLowerings (ct_figL hL46 okl hW46) ce_X5 rfl rfl gX5_keeps_X5_figuresOfLowerings (Nat.le_of_ble_eq_true rfl) (Nat.le_of_ble_eq_true rfl) dX5_keeps_68 ?_
                refine ro_iret rfl dX5_keeps_71 ?_
                first
                  | (rw [show sp_keeps S (nI k) (nI t) (nI n) q = (nI (smB (kpW (st_l S) (st_c S) k t n) (ln_n (st_l S))), S) from by unfold sp_keeps; rw [if_pos ⟨b8, b15⟩, if_neg (fun z => z.elim b22 (fun z => z.elim b28 (fun z => by rw [b36] at z; cases z))), kx_nI (by omega), kx_nI (by omega), kx_nI (by omega), if_pos hkep, if_pos b57]]
                     exact ⟨rfl, h.sc ho46.sc rfl, ho46.sc.all, rfl⟩)
                  | (rw [show sp_keeps S (nI k) (nI t) (nI n) q = (nI (figF (kpW (st_l S) (st_c S) k t n) (ln_n (st_l S))), S) from by unfold sp_keeps; rw [if_pos ⟨b8, b15⟩, if_neg (fun z => z.elim b22 (fun z => z.elim b28 (fun z => by rw [b36] at z; cases z))), kx_nI (by omega), kx_nI (by omega), kx_nI (by omega), if_pos hkep, if_neg b57]]
                     exact ⟨rfl, h.sc ho46.sc rfl, ho46.sc.all, rfl⟩)
              · refine ro_aload_n dX5_keeps_60 rfl rfl ?_
                refine ro_callV0 ok_X5_sumOfLowerings (ct_sumL hL46 okl hW46) ce_X5 rfl rfl gX5_keeps_X5_sumOfLowerings (Nat.le_of_ble_eq_true rfl) (Nat.le_of_ble_eq_true rfl) dX5_keeps_61 ?_
                refine ro_goto 71 dX5_keeps_64 (by decide) ?_
                refine ro_iret rfl dX5_keeps_71 ?_
                first
                  | (rw [show sp_keeps S (nI k) (nI t) (nI n) q = (nI (smB (kpW (st_l S) (st_c S) k t n) (ln_n (st_l S))), S) from by unfold sp_keeps; rw [if_pos ⟨b8, b15⟩, if_neg (fun z => z.elim b22 (fun z => z.elim b28 (fun z => by rw [b36] at z; cases z))), kx_nI (by omega), kx_nI (by omega), kx_nI (by omega), if_pos hkep, if_pos b57]]
                     exact ⟨rfl, h.sc ho46.sc rfl, ho46.sc.all, rfl⟩)
                  | (rw [show sp_keeps S (nI k) (nI t) (nI n) q = (nI (figF (kpW (st_l S) (st_c S) k t n) (ln_n (st_l S))), S) from by unfold sp_keeps; rw [if_pos ⟨b8, b15⟩, if_neg (fun z => z.elim b22 (fun z => z.elim b28 (fun z => by rw [b36] at z; cases z))), kx_nI (by omega), kx_nI (by omega), kx_nI (by omega), if_pos hkep, if_neg b57]]
                     exact ⟨rfl, h.sc ho46.sc rfl, ho46.sc.all, rfl⟩)
            · rw [bI_eq0] at b49
              have hkep := hr46.symm.trans b49
              refine ro_bipush (v := -9) dX5_keeps_52 (by decide) ?_
              refine ro_iret rfl dX5_keeps_54 ?_
              rw [show sp_keeps S (nI k) (nI t) (nI n) q = (-9, S) from by unfold sp_keeps; rw [if_pos ⟨b8, b15⟩, if_neg (fun z => z.elim b22 (fun z => z.elim b28 (fun z => by rw [b36] at z; cases z))), kx_nI (by omega), kx_nI (by omega), kx_nI (by omega), if_neg (by rw [hkep]; decide)]]
              exact ⟨rfl, h.sc ho46.sc rfl, ho46.sc.all, rfl⟩
          · rw [bI_eq0] at b36
            refine ro_bipush (v := -2) dX5_keeps_39 (by decide) ?_
            refine ro_iret rfl dX5_keeps_41 ?_
            rw [show sp_keeps S (nI k) (nI t) m q = (-2, S) from by unfold sp_keeps; rw [if_pos ⟨b8, b15⟩, if_pos (by first | exact Or.inl b22 | exact Or.inr (Or.inl b28) | exact Or.inr (Or.inr b36))]]
            exact ⟨rfl, h, OnlySc.rf.all, rfl⟩
    · rw [bI_eq0] at b15
      refine ro_iconst (v := -1) dX5_keeps_18 (by decide) ?_
      refine ro_iret rfl dX5_keeps_19 ?_
      rw [show sp_keeps S x y m q = (-1, S) from by unfold sp_keeps; rw [if_neg (fun z => by first | (rw [b8] at z; exact absurd z.1 (by decide)) | (rw [b15] at z; exact absurd z.2 (by decide)))]]
      exact ⟨rfl, h, OnlySc.rf.all, rfl⟩
