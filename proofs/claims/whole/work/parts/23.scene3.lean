theorem LaneR.kS {M M' : MM} {s : Nat} {l : LN} (h : LaneR M 16 l) (hs : sc_ok s) (ho : OnlyB s (s + 3) M M') : LaneR M' 16 l := h.keep (fun i h1 h2 => ho i (by obtain ⟨k, hk, rfl⟩ := hs; omega))
def sc_setK (c : SC) (f : Nat → Nat) : SC := (sc_who c, f, sc_vo c, sc_dry c, sc_hr c)
theorem lp_tellAt {g : GT} {L : LL} {s b : Nat} {ln : LN} {c : SC} {m th : Nat} {M0 : MM} (hs : sc_ok s) (ok : LnOK ln) (oc : ∀ j, sc_kn c j < 64) (hm : m < 2 ^ 31) (ht : th < 64) : ∀ (k i : Nat), i + k = ln_n ln → ∀ M : MM, LaneR M 16 ln → SceneR M s (sc_setK c (tellK m th (sc_kn c) i)) → OnlyB s (s + 3) M0 M → JW g mX4_tellAt 0 (fun v M' L' => v = some (.int (nI (mkB (fun h => m.testBit h && !decide (sc_kn c h ||| th = sc_kn c h)) (ln_n ln)))) ∧ SceneR M' s (sc_setK c (tellK m th (sc_kn c) (ln_n ln))) ∧ OnlyB s (s + 3) M0 M' ∧ L' = L) M L 5 [some (.ref (dq_A g s)), some (.int (nI m)), some (.int (nI th)), some (.int (nI (mkB (fun h => m.testBit h && !decide (sc_kn c h ||| th = sc_kn c h)) i))), some (.int (nI i))] [] := by
  have a1 := ok.1
  intro k
  induction k with
  | zero =>
    intro i hi M hL hS ho
    refine ro_iload dX4_tellAt_5 rfl ?_
    refine ro_aload_n dX4_tellAt_7 rfl rfl ?_
    refine gf_X4_lane hs in_X4_tellAt_X4 lk_X4_tellAt_21 dX4_tellAt_8 ?_
    refine gf_X2_houses ln_16 in_X4_tellAt_X2 lk_X4_tellAt_43 dX4_tellAt_11 ?_
    rw [hL.1]
    refine ro_icmp_ge 65 dX4_tellAt_14 (by decide) (fun b14 => ?_) (fun b14 => ?_)
    · refine ro_iload_n dX4_tellAt_65 rfl rfl ?_
      refine ro_iret rfl dX4_tellAt_66 ?_
      have e : i = ln_n ln := by omega
      subst e
      exact ⟨rfl, hS, ho, rfl⟩
    · exact absurd (nI_le (by omega) (by omega)) b14
  | succ k ih =>
    intro i hi M hL hS ho
    refine ro_iload dX4_tellAt_5 rfl ?_
    refine ro_aload_n dX4_tellAt_7 rfl rfl ?_
    refine gf_X4_lane hs in_X4_tellAt_X4 lk_X4_tellAt_21 dX4_tellAt_8 ?_
    refine gf_X2_houses ln_16 in_X4_tellAt_X2 lk_X4_tellAt_43 dX4_tellAt_11 ?_
    rw [hL.1]
    refine ro_icmp_ge 65 dX4_tellAt_14 (by decide) (fun b14 => ?_) (fun b14 => ?_)
    · exact absurd b14 (nI_ge (by omega) (by omega))
    · refine ro_iload_n dX4_tellAt_17 rfl rfl ?_
      refine ro_iload dX4_tellAt_18 rfl ?_
      refine ro_ishr dX4_tellAt_20 ?_
      refine ro_iconst (v := 1) dX4_tellAt_21 (by decide) ?_
      refine ro_iand dX4_tellAt_22 ?_
      rw [bt_at hm (by omega)]
      refine ro_iconst (v := 1) dX4_tellAt_23 (by decide) ?_
      refine ro_icmp_ne 59 dX4_tellAt_24 (by decide) (fun b24 => ?_) (fun b24 => ?_)
      · rw [bI_eq1, Bool.not_eq_true] at b24
        refine ro_iincP4 dX4_tellAt_59 (Nat.le_of_ble_eq_true rfl) rfl ?_
        refine ro_goto 5 dX4_tellAt_62 (by decide) ?_
        have e1 : mkB (fun h => m.testBit h && !decide (sc_kn c h ||| th = sc_kn c h)) i = mkB (fun h => m.testBit h && !decide (sc_kn c h ||| th = sc_kn c h)) (i + 1) := by
          show _ = mkB (fun h => m.testBit h && !decide (sc_kn c h ||| th = sc_kn c h)) i ||| (if (m.testBit i && !decide (sc_kn c i ||| th = sc_kn c i)) = true then 2 ^ i else 0)
          rw [if_neg (by simp [b24]), Nat.or_zero]
        have e2 : tellK m th (sc_kn c) (i + 1) = tellK m th (sc_kn c) i := by
          funext j
          unfold tellK
          by_cases hj : j = i
          · subst hj
            simp [b24]
          · have hji : j < i + 1 ↔ j < i := by omega
            simp only [hji]
        rw [nI_1, e1]
        rw [← e2] at hS
        exact ih (i + 1) (by omega) M hL hS ho
      · rw [bI_eq1] at b24
        refine ro_iload_n dX4_tellAt_27 rfl rfl ?_
        refine ro_aload_n dX4_tellAt_28 rfl rfl ?_
        refine gf_X4_knows hs in_X4_tellAt_X4 lk_X4_tellAt_15 dX4_tellAt_29 ?_
        refine ro_iload dX4_tellAt_32 rfl ?_
        refine ro_ai (ar_s2 hs) rfl (by omega) dX4_tellAt_34 ?_
        have hki : sc_kn (sc_setK c (tellK m th (sc_kn c) i)) i = sc_kn c i := by simp [sc_setK, sc_kn, tellK]
        rw [hS.2.1 i (by omega), hki]
        refine ro_iconst (v := -1) dX4_tellAt_35 (by decide) ?_
        refine ro_ixor dX4_tellAt_36 ?_
        refine ro_iand dX4_tellAt_37 ?_
        refine ro_if_eq 59 dX4_tellAt_38 (by decide) (fun b38 => ?_) (fun b38 => ?_)
        · rw [bt_sub th ht _ (oc i)] at b38
          refine ro_iincP4 dX4_tellAt_59 (Nat.le_of_ble_eq_true rfl) rfl ?_
          refine ro_goto 5 dX4_tellAt_62 (by decide) ?_
          have e1 : mkB (fun h => m.testBit h && !decide (sc_kn c h ||| th = sc_kn c h)) i = mkB (fun h => m.testBit h && !decide (sc_kn c h ||| th = sc_kn c h)) (i + 1) := by
            show _ = mkB (fun h => m.testBit h && !decide (sc_kn c h ||| th = sc_kn c h)) i ||| (if (m.testBit i && !decide (sc_kn c i ||| th = sc_kn c i)) = true then 2 ^ i else 0)
            rw [if_neg (by simp [b38]), Nat.or_zero]
          have e2 : tellK m th (sc_kn c) (i + 1) = tellK m th (sc_kn c) i := by
            funext j
            unfold tellK
            by_cases hj : j = i
            · subst hj
              simp [b38]
            · have hji : j < i + 1 ↔ j < i := by omega
              simp only [hji]
          rw [nI_1, e1]
          rw [← e2] at hS
          exact ih (i + 1) (by omega) M hL hS ho
        · rw [bt_sub th ht _ (oc i)] at b38
          refine ro_aload_n dX4_tellAt_41 rfl rfl ?_
          refine gf_X4_knows hs in_X4_tellAt_X4 lk_X4_tellAt_15 dX4_tellAt_42 ?_
          refine ro_iload dX4_tellAt_45 rfl ?_
          refine ro_dup2 dX4_tellAt_47 rfl rfl ?_
          refine ro_ai (ar_s2 hs) rfl (by omega) dX4_tellAt_48 ?_
          rw [hS.2.1 i (by omega), hki]
          refine ro_iload_n dX4_tellAt_49 rfl rfl ?_
          refine ro_ior dX4_tellAt_50 ?_
          rw [fa_or]
          refine ro_as (ar_s2 hs) rfl (by omega) dX4_tellAt_51 (fun M51 e51 => ?_)
          refine ro_iload_n dX4_tellAt_52 rfl rfl ?_
          refine ro_iconst (v := 1) dX4_tellAt_53 (by decide) ?_
          refine ro_iload dX4_tellAt_54 rfl ?_
          refine ro_ishl dX4_tellAt_56 ?_
          rw [sh_1 i (by omega)]
          refine ro_ior dX4_tellAt_57 ?_
          rw [fa_or]
          refine ro_istore_n3 dX4_tellAt_58 (Nat.le_of_ble_eq_true rfl) rfl ?_
          refine ro_iincP4 dX4_tellAt_59 (Nat.le_of_ble_eq_true rfl) rfl ?_
          refine ro_goto 5 dX4_tellAt_62 (by decide) ?_
          have e1 : mkB (fun h => m.testBit h && !decide (sc_kn c h ||| th = sc_kn c h)) i ||| 2 ^ i = mkB (fun h => m.testBit h && !decide (sc_kn c h ||| th = sc_kn c h)) (i + 1) := by
            show _ = mkB (fun h => m.testBit h && !decide (sc_kn c h ||| th = sc_kn c h)) i ||| (if (m.testBit i && !decide (sc_kn c i ||| th = sc_kn c i)) = true then 2 ^ i else 0)
            rw [if_pos (by simp [b24, b38])]
          rw [nI_1, e1]
          have ho2 := ho.tr (OnlyB.up e51 (by omega) (by omega))
          refine ih (i + 1) (by omega) M51 (hL.kS hs (OnlyB.up e51 (by omega) (by omega))) ?_ ho2
          refine ⟨fun j hj => ?_, fun j hj => ?_, fun j hj => ?_, ?_, ?_⟩
          · rw [e51, va_up_ne _ _ (by omega)]; exact hS.1 j hj
          · rw [e51, va_up_self]
            show upd (M (s + 2)) i (nI (sc_kn c i ||| th)) j = nI (tellK m th (sc_kn c) (i + 1) j)
            by_cases hji : j = i
            · subst hji; rw [pk_us]; simp [tellK, b24]
            · rw [pk_un hji, hS.2.1 j hj]
              have h2 : j < i + 1 ↔ j < i := by omega
              simp only [sc_setK, sc_kn, tellK, h2]
          · rw [e51, va_up_ne _ _ (by omega)]; exact hS.2.2.1 j hj
          · rw [e51, va_up_ne _ _ (by omega)]; exact hS.2.2.2.1
          · rw [e51, va_up_ne _ _ (by omega)]; exact hS.2.2.2.2
theorem tellK_0 (m th : Nat) (f : Nat → Nat) : tellK m th f 0 = f := by
  funext j
  simp [tellK]
theorem ct_tellAt {g : GT} {M : MM} {L : LL} {s b : Nat} {ln : LN} {c : SC} {m th : Nat} (hs : sc_ok s) (hL : LaneR M 16 ln) (ok : LnOK ln) (hS : SceneR M s c) (oc : ∀ j, sc_kn c j < 64) (hm : m < 2 ^ 31) (ht : th < 64) : CTQ g mX4_tellAt 0 [.ref (dq_A g s), .int (nI m), .int (nI th)] M L (fun v M' L' => v = some (.int (nI (mkB (fun h => m.testBit h && !decide (sc_kn c h ||| th = sc_kn c h)) (ln_n ln)))) ∧ SceneR M' s (sc_setK c (tellK m th (sc_kn c) (ln_n ln))) ∧ OnlyB s (s + 3) M M' ∧ L' = L) := by
  refine ct_of ok_X4_tellAt (lv := [some (.ref (dq_A g s)), some (.int (nI m)), some (.int (nI th)), none, none]) rfl (Nat.le_of_ble_eq_true rfl) ?_
  refine ro_iconst (v := 0) dX4_tellAt_0 (by decide) ?_
  refine ro_istore_n3 dX4_tellAt_1 (Nat.le_of_ble_eq_true rfl) rfl ?_
  refine ro_iconst (v := 0) dX4_tellAt_2 (by decide) ?_
  refine ro_istore4 dX4_tellAt_3 (Nat.le_of_ble_eq_true rfl) rfl ?_
  exact lp_tellAt (b := b) hs ok oc hm ht (ln_n ln) 0 (by omega) M hL (by rw [tellK_0]; exact hS) OnlyB.rf
