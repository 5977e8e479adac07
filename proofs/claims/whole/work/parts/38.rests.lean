/-! rests -/
def lowIf (n : Nat) (c : SC) (h a : Nat) : SC := if a = 1 ∧ canL n c h = true then lowC c h else c
theorem lowIf_ok {n b h a : Nat} {c : SC} (oc : ScOK n b c) : ScOK n b (lowIf n c h a) := by
  unfold lowIf
  split
  · next z => exact lowC_ok oc z.2
  · exact oc
def rsC (l : LN) (c : SC) (k j p : Nat) : SC := hrsC l 4 (lowIf (ln_n l) (lowIf (ln_n l) c k (p / 2)) j (p % 2))
def rsO (l : LN) (c : SC) (k j p : Nat) : Int := 6 - (pop (sc_kn (rsC l c k j p) k) : Int) - (p / 2 : Nat)
def rsT (l : LN) (c : SC) (k j p : Nat) : Int := 6 - (pop (sc_kn (rsC l c k j p) j) : Int) - (p % 2 : Nat)
def Only67 (M M' : MM) : Prop := ∀ i, i ≠ 6 → i ≠ 7 → (i < 34 ∨ 37 < i) → M' i = M i
theorem Only67.sc {M M' : MM} (h : Only67 M M') : OnlySc M M' := fun i a b c => h i (by omega) (by omega) (by omega)
theorem Only67.rf {M : MM} : Only67 M M := fun _ _ _ _ => rfl
theorem has_top (n a : Nat) : (6 : Int32) - nI n - nI a = oI (6 - (n : Int) - (a : Nat)) := by rw [show (6 : Int32) = oI 6 from rfl, nI_oI, nI_oI, oI_sub, oI_sub]
theorem fc_58 {g : GT} {M : MM} {L : LL} {ln : LN} {b k j i : Nat} {c c1 : SC} {M0 : MM} {Q : Option Value → MM → LL → Prop} (ok : LnOK ln) (hk : k < ln_n ln) (hj : j < ln_n ln) (hi : i < 4) (hb : b < 2 ^ 29) (hL : LaneR M 16 ln) (hS : SceneR M 34 c1) (oc : ScOK (ln_n ln) b c1) (hc : rsC ln c k j i = hrsC ln 4 c1) (ho : Only67 M0 M) (h6 : M 6 = M0 6) (h7 : M 7 = M0 7) (K : ∀ M' : MM, Only67 M0 M' → M' 6 i = oI (rsO ln c k j i) → M' 7 i = oI (rsT ln c k j i) → (∀ p, p ≠ i → M' 6 p = M0 6 p ∧ M' 7 p = M0 7 p) → JW g mX5_fillChoices 5 Q M' L 2 [some (.ref (dq_A g 0)), some (.int (nI k)), some (.int (nI j)), some (.int (nI (i + 1))), some (.int (nI (i / 2))), some (.int (nI (i % 2)))] []) : JW g mX5_fillChoices 5 Q M L 58 [some (.ref (dq_A g 0)), some (.int (nI k)), some (.int (nI j)), some (.int (nI i)), some (.int (nI (i / 2))), some (.int (nI (i % 2)))] [] := by
  have a1 := ok.1
  refine ro_aload_n dX5_fillChoices_58 rfl rfl ?_
  refine gf_X5_trial  in_X5_fillChoices_X5 lk_X5_fillChoices_56 dX5_fillChoices_59 ?_
  refine ro_iconst (v := 4) dX5_fillChoices_62 (by decide) ?_
  refine ro_callV1Q ok_X4_passHours (ct_passHours (n := 4) sc_34 hL ok hS oc (by omega)) (ce_X4 sc_34) rfl rfl gX5_fillChoices_X4_passHours (Nat.le_of_ble_eq_true rfl) (Nat.le_of_ble_eq_true rfl) dX5_fillChoices_63 (fun v63 M63 L63 q63 => ?_)
  obtain ⟨rfl, hS63, ho63, rfl⟩ := q63
  have oc63 : ScOK (ln_n ln) (b + 4) (rsC ln c k j i) := by rw [hc]; exact hrsC_ok ok oc 4
  have hS63 : SceneR M63 34 (rsC ln c k j i) := by rw [hc]; exact hS63
  refine ro_aload_n dX5_fillChoices_66 rfl rfl ?_
  refine gf_X5_oneHas  in_X5_fillChoices_X5 lk_X5_fillChoices_29 dX5_fillChoices_67 ?_
  refine ro_iload_n dX5_fillChoices_70 rfl rfl ?_
  refine ro_bipush (v := 6) dX5_fillChoices_71 (by decide) ?_
  refine ro_aload_n dX5_fillChoices_73 rfl rfl ?_
  refine gf_X5_trial  in_X5_fillChoices_X5 lk_X5_fillChoices_56 dX5_fillChoices_74 ?_
  refine gf_X4_knows sc_34 in_X5_fillChoices_X4 lk_X5_fillChoices_116 dX5_fillChoices_77 ?_
  refine ro_iload_n dX5_fillChoices_80 rfl rfl ?_
  refine ro_ai (ar_s2 sc_34) rfl (by omega) dX5_fillChoices_81 ?_
  rw [hS63.2.1 k (by have := ok.1; omega)]
  refine ro_callS1 ok_J6_bitCount_0f7a4 (ct_bitCount (oc63.2.2.1 k)) gX5_fillChoices_J6_bitCount_0f7a4 (Nat.le_of_ble_eq_true rfl) (Nat.le_of_ble_eq_true rfl) dX5_fillChoices_82 ?_
  refine ro_isub dX5_fillChoices_85 ?_
  refine ro_iload dX5_fillChoices_86 rfl ?_
  refine ro_isub dX5_fillChoices_88 ?_
  refine ro_top (show _ = oI (rsO ln c k j i) from has_top _ _) ?_
  refine ro_as ar_6 rfl (by omega) dX5_fillChoices_89 (fun M89 e89 => ?_)
  refine ro_aload_n dX5_fillChoices_90 rfl rfl ?_
  refine gf_X5_otherHas  in_X5_fillChoices_X5 lk_X5_fillChoices_32 dX5_fillChoices_91 ?_
  refine ro_iload_n dX5_fillChoices_94 rfl rfl ?_
  refine ro_bipush (v := 6) dX5_fillChoices_95 (by decide) ?_
  refine ro_aload_n dX5_fillChoices_97 rfl rfl ?_
  refine gf_X5_trial  in_X5_fillChoices_X5 lk_X5_fillChoices_56 dX5_fillChoices_98 ?_
  refine gf_X4_knows sc_34 in_X5_fillChoices_X4 lk_X5_fillChoices_116 dX5_fillChoices_101 ?_
  refine ro_iload_n dX5_fillChoices_104 rfl rfl ?_
  refine ro_ai (ar_s2 sc_34) rfl (by omega) dX5_fillChoices_105 ?_
  rw [show M89 36 j = nI (sc_kn (rsC ln c k j i) j) from by rw [e89, va_up_ne _ _ (by decide)]; exact hS63.2.1 j (by have := ok.1; omega)]
  refine ro_callS1 ok_J6_bitCount_0f7a4 (ct_bitCount (oc63.2.2.1 j)) gX5_fillChoices_J6_bitCount_0f7a4 (Nat.le_of_ble_eq_true rfl) (Nat.le_of_ble_eq_true rfl) dX5_fillChoices_106 ?_
  refine ro_isub dX5_fillChoices_109 ?_
  refine ro_iload dX5_fillChoices_110 rfl ?_
  refine ro_isub dX5_fillChoices_112 ?_
  refine ro_top (show _ = oI (rsT ln c k j i) from has_top _ _) ?_
  refine ro_as ar_7 rfl (by omega) dX5_fillChoices_113 (fun M113 e113 => ?_)
  refine ro_iincP3 dX5_fillChoices_114 (Nat.le_of_ble_eq_true rfl) rfl ?_
  refine ro_goto 2 dX5_fillChoices_117 (by decide) ?_
  rw [nI_1]
  refine K M113 (fun q a b d => ?_) ?_ ?_ (fun p hp => ?_)
  · rw [e113, va_up_ne _ _ b, e89, va_up_ne _ _ a, ho63 q d]; exact ho q a b d
  · rw [e113, va_up_ne _ _ (by decide), e89, va_up_self, pk_us]
  · rw [e113, va_up_self, pk_us]
  · have r6 : M113 6 = upd (M63 6) i (oI (rsO ln c k j i)) := by rw [e113, va_up_ne _ _ (by decide), e89, va_up_self]
    have r7 : M113 7 = upd (M63 7) i (oI (rsT ln c k j i)) := by rw [e113, va_up_self, e89, va_up_ne _ _ (by decide)]
    rw [r6, r7, pk_un hp, pk_un hp, ho63 6 (by omega), ho63 7 (by omega), h6, h7]
    exact ⟨rfl, rfl⟩
theorem fc_43 {g : GT} {M : MM} {L : LL} {ln : LN} {b k j i : Nat} {c c1 : SC} {M0 : MM} {Q : Option Value → MM → LL → Prop} (ok : LnOK ln) (hk : k < ln_n ln) (hj : j < ln_n ln) (hi : i < 4) (hb : b < 2 ^ 29) (hL : LaneR M 16 ln) (hS : SceneR M 34 c1) (oc : ScOK (ln_n ln) b c1) (hc : lowIf (ln_n ln) c k (i / 2) = c1) (ho : Only67 M0 M) (h6 : M 6 = M0 6) (h7 : M 7 = M0 7) (K : ∀ M' : MM, Only67 M0 M' → M' 6 i = oI (rsO ln c k j i) → M' 7 i = oI (rsT ln c k j i) → (∀ p, p ≠ i → M' 6 p = M0 6 p ∧ M' 7 p = M0 7 p) → JW g mX5_fillChoices 5 Q M' L 2 [some (.ref (dq_A g 0)), some (.int (nI k)), some (.int (nI j)), some (.int (nI (i + 1))), some (.int (nI (i / 2))), some (.int (nI (i % 2)))] []) : JW g mX5_fillChoices 5 Q M L 43 [some (.ref (dq_A g 0)), some (.int (nI k)), some (.int (nI j)), some (.int (nI i)), some (.int (nI (i / 2))), some (.int (nI (i % 2)))] [] := by
  refine ro_iload dX5_fillChoices_43 rfl ?_
  refine ro_iconst (v := 1) dX5_fillChoices_45 (by decide) ?_
  refine ro_icmp_ne 58 dX5_fillChoices_46 (by decide) (fun b46 => ?_) (fun b46 => ?_)
  · replace b46 : ¬ i % 2 = 1 := fun z => b46 (by rw [z]; rfl)
    first
      | (refine fc_58 (M0 := M0) (c := c) ok hk hj hi hb (hL.kS sc_34 ho54) hS54 ?_ ?_ (fun q z1 z2 z3 => (ho54 q z3).trans (ho q z1 z2 z3)) ((ho54 6 (by omega)).trans h6) ((ho54 7 (by omega)).trans h7) K
         · split
           · next z => exact lowC_ok oc z
           · exact oc
         · rw [rsC, hc, lowIf]
           congr 1
           by_cases z : canL (ln_n ln) c1 j = true
           · rw [if_pos ⟨b46, z⟩, if_pos z]
           · rw [if_neg (fun y => z y.2), if_neg z])
      | (refine fc_58 (M0 := M0) (c := c) ok hk hj hi hb hL hS oc ?_ ho h6 h7 K
         rw [rsC, hc, lowIf, if_neg (fun y => b46 y.1)])
  · replace b46 : i % 2 = 1 := (nI_eq (b := 1) (by omega) (by decide)).mp b46
    refine ro_aload_n dX5_fillChoices_49 rfl rfl ?_
    refine gf_X5_trial  in_X5_fillChoices_X5 lk_X5_fillChoices_56 dX5_fillChoices_50 ?_
    refine ro_iload_n dX5_fillChoices_53 rfl rfl ?_
    refine ro_callV1Q ok_X4_tryLowered (ct_tryL sc_34 hL ok hS oc (by omega) (by have := ok.1; omega)) (ce_X4 sc_34) rfl rfl gX5_fillChoices_X4_tryLowered (Nat.le_of_ble_eq_true rfl) (Nat.le_of_ble_eq_true rfl) dX5_fillChoices_54 (fun v54 M54 L54 q54 => ?_)
    obtain ⟨rfl, hS54, ho54, rfl⟩ := q54
    refine ro_pop dX5_fillChoices_57 rfl ?_
    first
      | (refine fc_58 (M0 := M0) (c := c) ok hk hj hi hb (hL.kS sc_34 ho54) hS54 ?_ ?_ (fun q z1 z2 z3 => (ho54 q z3).trans (ho q z1 z2 z3)) ((ho54 6 (by omega)).trans h6) ((ho54 7 (by omega)).trans h7) K
         · split
           · next z => exact lowC_ok oc z
           · exact oc
         · rw [rsC, hc, lowIf]
           congr 1
           by_cases z : canL (ln_n ln) c1 j = true
           · rw [if_pos ⟨b46, z⟩, if_pos z]
           · rw [if_neg (fun y => z y.2), if_neg z])
      | (refine fc_58 (M0 := M0) (c := c) ok hk hj hi hb hL hS oc ?_ ho h6 h7 K
         rw [rsC, hc, lowIf, if_neg (fun y => b46 y.1)])
theorem lp_choices {g : GT} {L : LL} {ln : LN} {b k j : Nat} {c : SC} {M0 : MM} (ok : LnOK ln) (oc : ScOK (ln_n ln) b c) (hk : k < ln_n ln) (hj : j < ln_n ln) (hb : b < 2 ^ 29) : ∀ (f i : Nat), i + f = 4 → ∀ M : MM, LaneR M 16 ln → SceneR M 30 c → Only67 M0 M → (∀ p, p < i → M 6 p = oI (rsO ln c k j p) ∧ M 7 p = oI (rsT ln c k j p)) → ∀ x4 x5 : Option Value, JW g mX5_fillChoices 5 (fun v M' L' => v = none ∧ (∀ p, p < 4 → M' 6 p = oI (rsO ln c k j p) ∧ M' 7 p = oI (rsT ln c k j p)) ∧ Only67 M0 M' ∧ L' = L) M L 2 [some (.ref (dq_A g 0)), some (.int (nI k)), some (.int (nI j)), some (.int (nI i)), x4, x5] [] := by
  intro f
  induction f with
  | zero =>
    intro i hi M hL hS ho hd x4 x5
    refine ro_iload_n dX5_fillChoices_2 rfl rfl ?_
    refine ro_iconst (v := 4) dX5_fillChoices_3 (by decide) ?_
    refine ro_icmp_ge 120 dX5_fillChoices_4 (by decide) (fun b4 => ?_) (fun b4 => ?_)
    · refine ro_vret rfl dX5_fillChoices_120 ?_
      exact ⟨rfl, fun p hp => hd p (by omega), ho, rfl⟩
    · exact absurd (nI_le (a := 4) (by omega) (by omega)) b4
  | succ f ih =>
    intro i hi M hL hS ho hd x4 x5
    refine ro_iload_n dX5_fillChoices_2 rfl rfl ?_
    refine ro_iconst (v := 4) dX5_fillChoices_3 (by decide) ?_
    refine ro_icmp_ge 120 dX5_fillChoices_4 (by decide) (fun b4 => ?_) (fun b4 => ?_)
    · exact absurd b4 (nI_ge (b := 4) (by omega) (by decide))
    · refine ro_iload_n dX5_fillChoices_7 rfl rfl ?_
      refine ro_iconst (v := 1) dX5_fillChoices_8 (by decide) ?_
      refine ro_ishr dX5_fillChoices_9 ?_
      refine ro_top (show _ = nI (i / 2) from sh_r (k := 1) (by omega) (by decide)) ?_
      refine ro_istore4 dX5_fillChoices_10 (Nat.le_of_ble_eq_true rfl) rfl ?_
      refine ro_iload_n dX5_fillChoices_12 rfl rfl ?_
      refine ro_iconst (v := 1) dX5_fillChoices_13 (by decide) ?_
      refine ro_iand dX5_fillChoices_14 ?_
      refine ro_top (show _ = nI (i % 2) from bt_and1 (by omega)) ?_
      refine ro_istore5 dX5_fillChoices_15 (Nat.le_of_ble_eq_true rfl) rfl ?_
      refine ro_aload_n dX5_fillChoices_17 rfl rfl ?_
      refine gf_X5_trial  in_X5_fillChoices_X5 lk_X5_fillChoices_56 dX5_fillChoices_18 ?_
      refine ro_aload_n dX5_fillChoices_21 rfl rfl ?_
      refine gf_X5_now  in_X5_fillChoices_X5 lk_X5_fillChoices_52 dX5_fillChoices_22 ?_
      refine ro_callV1Q ok_X4_take (ct_scTake sc_34 sc_30 (by omega) hS) (ce_X4 sc_34) rfl rfl gX5_fillChoices_X4_take (Nat.le_of_ble_eq_true rfl) (Nat.le_of_ble_eq_true rfl) dX5_fillChoices_25 (fun v25 M25 L25 q25 => ?_)
      obtain ⟨rfl, hS25, ho25, rfl⟩ := q25
      have hL25 := hL.kS sc_34 ho25
      refine ro_iload dX5_fillChoices_28 rfl ?_
      refine ro_iconst (v := 1) dX5_fillChoices_30 (by decide) ?_
      refine ro_icmp_ne 43 dX5_fillChoices_31 (by decide) (fun b31 => ?_) (fun b31 => ?_)
      · replace b31 : ¬ i / 2 = 1 := fun z => b31 (by rw [z]; rfl)
        have K : ∀ M' : MM, Only67 M M' → M' 6 i = oI (rsO ln c k j i) → M' 7 i = oI (rsT ln c k j i) → (∀ p, p ≠ i → M' 6 p = M 6 p ∧ M' 7 p = M 7 p) → JW g mX5_fillChoices 5 _ M' _ 2 _ [] := fun M' y1 y2 y3 y4 => ih (i + 1) (by omega) M' (hL.keep (fun q a b => y1 q (by omega) (by omega) (by omega))) (hS.keep (fun q a b => y1 q (by omega) (by omega) (by omega))) (fun q a b d => (y1 q a b d).trans (ho q a b d)) (fun p hp => by
          by_cases e : p = i
          · subst e; exact ⟨y2, y3⟩
          · rw [(y4 p e).1, (y4 p e).2]; exact hd p (by omega)) (some (.int (nI (i / 2)))) (some (.int (nI (i % 2))))
        first
          | (refine fc_43 (M0 := M) (c := c) ok hk hj (by omega) hb (hL25.kS sc_34 ho39) hS39 ?_ ?_ (fun q z1 z2 z3 => (ho39 q z3).trans (ho25 q z3)) ((ho39 6 (by omega)).trans (ho25 6 (by omega))) ((ho39 7 (by omega)).trans (ho25 7 (by omega))) K
             · split
               · next z => exact lowC_ok oc z
               · exact oc
             · rw [lowIf]
               by_cases z : canL (ln_n ln) c k = true
               · rw [if_pos ⟨b31, z⟩, if_pos z]
               · rw [if_neg (fun y => z y.2), if_neg z])
          | (refine fc_43 (M0 := M) (c := c) ok hk hj (by omega) hb hL25 hS25 oc ?_ (fun q z1 z2 z3 => ho25 q z3) (ho25 6 (by omega)) (ho25 7 (by omega)) K
             rw [lowIf, if_neg (fun y => b31 y.1)])
      · replace b31 : i / 2 = 1 := (nI_eq (b := 1) (by omega) (by decide)).mp b31
        refine ro_aload_n dX5_fillChoices_34 rfl rfl ?_
        refine gf_X5_trial  in_X5_fillChoices_X5 lk_X5_fillChoices_56 dX5_fillChoices_35 ?_
        refine ro_iload_n dX5_fillChoices_38 rfl rfl ?_
        refine ro_callV1Q ok_X4_tryLowered (ct_tryL sc_34 hL25 ok hS25 oc (by omega) (by have := ok.1; omega)) (ce_X4 sc_34) rfl rfl gX5_fillChoices_X4_tryLowered (Nat.le_of_ble_eq_true rfl) (Nat.le_of_ble_eq_true rfl) dX5_fillChoices_39 (fun v39 M39 L39 q39 => ?_)
        obtain ⟨rfl, hS39, ho39, rfl⟩ := q39
        refine ro_pop dX5_fillChoices_42 rfl ?_
        have K : ∀ M' : MM, Only67 M M' → M' 6 i = oI (rsO ln c k j i) → M' 7 i = oI (rsT ln c k j i) → (∀ p, p ≠ i → M' 6 p = M 6 p ∧ M' 7 p = M 7 p) → JW g mX5_fillChoices 5 _ M' _ 2 _ [] := fun M' y1 y2 y3 y4 => ih (i + 1) (by omega) M' (hL.keep (fun q a b => y1 q (by omega) (by omega) (by omega))) (hS.keep (fun q a b => y1 q (by omega) (by omega) (by omega))) (fun q a b d => (y1 q a b d).trans (ho q a b d)) (fun p hp => by
          by_cases e : p = i
          · subst e; exact ⟨y2, y3⟩
          · rw [(y4 p e).1, (y4 p e).2]; exact hd p (by omega)) (some (.int (nI (i / 2)))) (some (.int (nI (i % 2))))
        first
          | (refine fc_43 (M0 := M) (c := c) ok hk hj (by omega) hb (hL25.kS sc_34 ho39) hS39 ?_ ?_ (fun q z1 z2 z3 => (ho39 q z3).trans (ho25 q z3)) ((ho39 6 (by omega)).trans (ho25 6 (by omega))) ((ho39 7 (by omega)).trans (ho25 7 (by omega))) K
             · split
               · next z => exact lowC_ok oc z
               · exact oc
             · rw [lowIf]
               by_cases z : canL (ln_n ln) c k = true
               · rw [if_pos ⟨b31, z⟩, if_pos z]
               · rw [if_neg (fun y => z y.2), if_neg z])
          | (refine fc_43 (M0 := M) (c := c) ok hk hj (by omega) hb hL25 hS25 oc ?_ (fun q z1 z2 z3 => ho25 q z3) (ho25 6 (by omega)) (ho25 7 (by omega)) K
             rw [lowIf, if_neg (fun y => b31 y.1)])
theorem ct_choices {g : GT} {M : MM} {L : LL} {ln : LN} {b k j : Nat} {c : SC} (hL : LaneR M 16 ln) (ok : LnOK ln) (hS : SceneR M 30 c) (oc : ScOK (ln_n ln) b c) (hk : k < ln_n ln) (hj : j < ln_n ln) (hb : b < 2 ^ 29) : CTQ g mX5_fillChoices 5 [.ref (dq_A g 0), .int (nI k), .int (nI j)] M L (fun v M' L' => v = none ∧ (∀ p, p < 4 → M' 6 p = oI (rsO ln c k j p) ∧ M' 7 p = oI (rsT ln c k j p)) ∧ Only67 M M' ∧ L' = L) := by
  refine ct_of ok_X5_fillChoices (lv := [some (.ref (dq_A g 0)), some (.int (nI k)), some (.int (nI j)), none, none, none]) rfl (Nat.le_of_ble_eq_true rfl) ?_
  refine ro_iconst (v := 0) dX5_fillChoices_0 (by decide) ?_
  refine ro_istore_n3 dX5_fillChoices_1 (Nat.le_of_ble_eq_true rfl) rfl ?_
  exact lp_choices ok oc hk hj hb 4 0 rfl M hL hS Only67.rf (fun p hp => absurd hp (Nat.not_lt_zero p)) none none
def rsP (l : LN) (c : SC) (k j p : Nat) : Bool := decide (rsO l c k j (p ^^^ 2) ≤ rsO l c k j p ∧ rsT l c k j (p ^^^ 1) ≤ rsT l c k j p)
def rsF (P : Nat → Bool) : Nat → Nat × Int32
  | 0 => (0, -9)
  | i + 1 => if P i = true then ((rsF P i).1 + 1, if (rsF P i).1 = 0 then nI (10 * (i / 2) + i % 2) else (rsF P i).2) else rsF P i
theorem rsF_le (P : Nat → Bool) : ∀ i, (rsF P i).1 ≤ i
  | 0 => Nat.le_refl _
  | i + 1 => by
    have := rsF_le P i
    rw [rsF]
    split
    · exact Nat.succ_le_succ this
    · omega
theorem rs_b (l : LN) (c : SC) (k j p : Nat) (hp : p < 4) : (-4 ≤ rsO l c k j p ∧ rsO l c k j p ≤ 6) ∧ -4 ≤ rsT l c k j p ∧ rsT l c k j p ≤ 6 := by
  have h1 := pop_lt (sc_kn (rsC l c k j p) k)
  have h2 := pop_lt (sc_kn (rsC l c k j p) j)
  unfold rsO rsT
  omega
theorem xr_2 : ∀ p : Nat, p < 4 → nI p ^^^ 2 = nI (p ^^^ 2) ∧ p ^^^ 2 < 4 := by decide +kernel
theorem xr_1 : ∀ p : Nat, p < 4 → nI p ^^^ 1 = nI (p ^^^ 1) ∧ p ^^^ 1 < 4 := by decide +kernel
def sp_rests (S : ST) (x y w : Int32) : Int32 × ST := (if hB (ln_n (st_l S)) x = true ∧ hB (ln_n (st_l S)) y = true then (if x = y ∨ zo w = false then -2 else (if w = 0 then nI (rsF (rsP (st_l S) (st_c S) (kx x) (kx y)) 4).1 else (rsF (rsP (st_l S) (st_c S) (kx x) (kx y)) 4).2)) else -1, S)
theorem lp_rests {g : GT} {M : MM} {L : LL} {ln : LN} {k j : Nat} {c : SC} {w : Int32} (hd : ∀ p, p < 4 → M 6 p = oI (rsO ln c k j p) ∧ M 7 p = oI (rsT ln c k j p)) : ∀ (f i : Nat), i + f = 4 → JW g mX5_rests 6 (Rt (some (.int (if w = 0 then nI (rsF (rsP ln c k j) 4).1 else (rsF (rsP ln c k j) 4).2))) M L) M L 55 [some (.ref (dq_A g 0)), some (.int (nI k)), some (.int (nI j)), some (.int w), some (.int (nI (rsF (rsP ln c k j) i).1)), some (.int (rsF (rsP ln c k j) i).2), some (.int (nI i))] [] := by
  intro f
  induction f with
  | zero =>
    intro i hi
    have e : i = 4 := by omega
    refine ro_iload dX5_rests_55 rfl ?_
    refine ro_iconst (v := 4) dX5_rests_57 (by decide) ?_
    refine ro_icmp_ge 132 dX5_rests_58 (by decide) (fun b58 => ?_) (fun b58 => ?_)
    · refine ro_iload_n dX5_rests_132 rfl rfl ?_
      refine ro_if_ne 141 dX5_rests_133 (by decide) (fun b133 => ?_) (fun b133 => ?_)
      · refine ro_iload dX5_rests_141 rfl ?_
        refine ro_iret rfl dX5_rests_143 ?_
        exact ⟨by rw [← e]; first | (rw [if_pos b133]; done) | (rw [if_neg b133]; done), rfl, rfl⟩
      · refine ro_iload dX5_rests_136 rfl ?_
        refine ro_goto 143 dX5_rests_138 (by decide) ?_
        refine ro_iret rfl dX5_rests_143 ?_
        exact ⟨by rw [← e]; first | (rw [if_pos b133]; done) | (rw [if_neg b133]; done), rfl, rfl⟩
    · exact absurd (nI_le (a := 4) (by omega) (by omega)) b58
  | succ f ih =>
    intro i hi
    have q1 := rs_b ln c k j i (by omega)
    have q2 := rs_b ln c k j (i ^^^ 2) (xr_2 i (by omega)).2
    have q3 := rs_b ln c k j (i ^^^ 1) (xr_1 i (by omega)).2
    refine ro_iload dX5_rests_55 rfl ?_
    refine ro_iconst (v := 4) dX5_rests_57 (by decide) ?_
    refine ro_icmp_ge 132 dX5_rests_58 (by decide) (fun b58 => ?_) (fun b58 => ?_)
    · exact absurd b58 (nI_ge (b := 4) (by omega) (by decide))
    · refine ro_aload_n dX5_rests_61 rfl rfl ?_
      refine gf_X5_oneHas  in_X5_rests_X5 lk_X5_rests_29 dX5_rests_62 ?_
      refine ro_iload dX5_rests_65 rfl ?_
      refine ro_ai ar_6 rfl (by omega) dX5_rests_67 ?_
      rw [(hd i (by omega)).1]
      refine ro_aload_n dX5_rests_68 rfl rfl ?_
      refine gf_X5_oneHas  in_X5_rests_X5 lk_X5_rests_29 dX5_rests_69 ?_
      refine ro_iload dX5_rests_72 rfl ?_
      refine ro_iconst (v := 2) dX5_rests_74 (by decide) ?_
      refine ro_ixor dX5_rests_75 ?_
      refine ro_ai ar_6 (xr_2 i (by omega)).1 (xr_2 i (by omega)).2 dX5_rests_76 ?_
      rw [(hd (i ^^^ 2) (xr_2 i (by omega)).2).1]
      refine ro_icmp_lt 126 dX5_rests_77 (by decide) (fun b77 => ?_) (fun b77 => ?_)
      · rw [oI_lt (by omega) (by omega) (by omega) (by omega)] at b77
        refine ro_iincP6 dX5_rests_126 (Nat.le_of_ble_eq_true rfl) rfl ?_
        refine ro_goto 55 dX5_rests_129 (by decide) ?_
        rw [nI_1]
        have hu : rsF (rsP ln c k j) (i + 1) = if rsP ln c k j i = true then ((rsF (rsP ln c k j) i).1 + 1, if (rsF (rsP ln c k j) i).1 = 0 then nI (10 * (i / 2) + i % 2) else (rsF (rsP ln c k j) i).2) else rsF (rsP ln c k j) i := rfl
        have z := ih (i + 1) (by omega)
        first
          | (have hp : rsP ln c k j i = true := decide_eq_true (by omega)
             rw [hu, if_pos hp, if_pos b101] at z
             rw [nI_1]
             exact z)
          | (have hp : rsP ln c k j i = true := decide_eq_true (by omega)
             rw [hu, if_pos hp, if_neg b101] at z
             rw [nI_1]
             exact z)
          | (have hp : ¬ rsP ln c k j i = true := by unfold rsP; rw [decide_eq_true_eq]; omega
             rw [hu, if_neg hp] at z
             exact z)
      · rw [oI_lt (by omega) (by omega) (by omega) (by omega)] at b77
        refine ro_aload_n dX5_rests_80 rfl rfl ?_
        refine gf_X5_otherHas  in_X5_rests_X5 lk_X5_rests_32 dX5_rests_81 ?_
        refine ro_iload dX5_rests_84 rfl ?_
        refine ro_ai ar_7 rfl (by omega) dX5_rests_86 ?_
        rw [(hd i (by omega)).2]
        refine ro_aload_n dX5_rests_87 rfl rfl ?_
        refine gf_X5_otherHas  in_X5_rests_X5 lk_X5_rests_32 dX5_rests_88 ?_
        refine ro_iload dX5_rests_91 rfl ?_
        refine ro_iconst (v := 1) dX5_rests_93 (by decide) ?_
        refine ro_ixor dX5_rests_94 ?_
        refine ro_ai ar_7 (xr_1 i (by omega)).1 (xr_1 i (by omega)).2 dX5_rests_95 ?_
        rw [(hd (i ^^^ 1) (xr_1 i (by omega)).2).2]
        refine ro_icmp_lt 126 dX5_rests_96 (by decide) (fun b96 => ?_) (fun b96 => ?_)
        · rw [oI_lt (by omega) (by omega) (by omega) (by omega)] at b96
          refine ro_iincP6 dX5_rests_126 (Nat.le_of_ble_eq_true rfl) rfl ?_
          refine ro_goto 55 dX5_rests_129 (by decide) ?_
          rw [nI_1]
          have hu : rsF (rsP ln c k j) (i + 1) = if rsP ln c k j i = true then ((rsF (rsP ln c k j) i).1 + 1, if (rsF (rsP ln c k j) i).1 = 0 then nI (10 * (i / 2) + i % 2) else (rsF (rsP ln c k j) i).2) else rsF (rsP ln c k j) i := rfl
          have z := ih (i + 1) (by omega)
          first
            | (have hp : rsP ln c k j i = true := decide_eq_true (by omega)
               rw [hu, if_pos hp, if_pos b101] at z
               rw [nI_1]
               exact z)
            | (have hp : rsP ln c k j i = true := decide_eq_true (by omega)
               rw [hu, if_pos hp, if_neg b101] at z
               rw [nI_1]
               exact z)
            | (have hp : ¬ rsP ln c k j i = true := by unfold rsP; rw [decide_eq_true_eq]; omega
               rw [hu, if_neg hp] at z
               exact z)
        · rw [oI_lt (by omega) (by omega) (by omega) (by omega)] at b96
          refine ro_iload dX5_rests_99 rfl ?_
          refine ro_if_ne 119 dX5_rests_101 (by decide) (fun b101 => ?_) (fun b101 => ?_)
          · replace b101 : ¬ (rsF (rsP ln c k j) i).1 = 0 := fun z => b101 (by rw [z]; rfl)
            refine ro_iload dX5_rests_119 rfl ?_
            refine ro_istore5 dX5_rests_121 (Nat.le_of_ble_eq_true rfl) rfl ?_
            refine ro_iincP4 dX5_rests_123 (Nat.le_of_ble_eq_true rfl) rfl ?_
            refine ro_iincP6 dX5_rests_126 (Nat.le_of_ble_eq_true rfl) rfl ?_
            refine ro_goto 55 dX5_rests_129 (by decide) ?_
            rw [nI_1]
            have hu : rsF (rsP ln c k j) (i + 1) = if rsP ln c k j i = true then ((rsF (rsP ln c k j) i).1 + 1, if (rsF (rsP ln c k j) i).1 = 0 then nI (10 * (i / 2) + i % 2) else (rsF (rsP ln c k j) i).2) else rsF (rsP ln c k j) i := rfl
            have z := ih (i + 1) (by omega)
            first
              | (have hp : rsP ln c k j i = true := decide_eq_true (by omega)
                 rw [hu, if_pos hp, if_pos b101] at z
                 rw [nI_1]
                 exact z)
              | (have hp : rsP ln c k j i = true := decide_eq_true (by omega)
                 rw [hu, if_pos hp, if_neg b101] at z
                 rw [nI_1]
                 exact z)
              | (have hp : ¬ rsP ln c k j i = true := by unfold rsP; rw [decide_eq_true_eq]; omega
                 rw [hu, if_neg hp] at z
                 exact z)
          · replace b101 : (rsF (rsP ln c k j) i).1 = 0 := (nI_eq (b := 0) (by have := rsF_le (rsP ln c k j) i; omega) (by decide)).mp b101
            refine ro_bipush (v := 10) dX5_rests_104 (by decide) ?_
            refine ro_iload dX5_rests_106 rfl ?_
            refine ro_iconst (v := 1) dX5_rests_108 (by decide) ?_
            refine ro_ishr dX5_rests_109 ?_
            refine ro_top (show _ = nI (i / 2) from sh_r (k := 1) (by omega) (by decide)) ?_
            refine ro_imul dX5_rests_110 ?_
            refine ro_iload dX5_rests_111 rfl ?_
            refine ro_iconst (v := 1) dX5_rests_113 (by decide) ?_
            refine ro_iand dX5_rests_114 ?_
            refine ro_top (show _ = nI (i % 2) from bt_and1 (by omega)) ?_
            refine ro_iadd dX5_rests_115 ?_
            rw [show (10 : Int32) * nI (i / 2) + nI (i % 2) = nI (10 * (i / 2) + i % 2) from by rw [show (10 : Int32) = nI 10 from rfl, pk_mul, nI_add]]
            refine ro_goto 121 dX5_rests_116 (by decide) ?_
            refine ro_istore5 dX5_rests_121 (Nat.le_of_ble_eq_true rfl) rfl ?_
            refine ro_iincP4 dX5_rests_123 (Nat.le_of_ble_eq_true rfl) rfl ?_
            refine ro_iincP6 dX5_rests_126 (Nat.le_of_ble_eq_true rfl) rfl ?_
            refine ro_goto 55 dX5_rests_129 (by decide) ?_
            rw [nI_1]
            have hu : rsF (rsP ln c k j) (i + 1) = if rsP ln c k j i = true then ((rsF (rsP ln c k j) i).1 + 1, if (rsF (rsP ln c k j) i).1 = 0 then nI (10 * (i / 2) + i % 2) else (rsF (rsP ln c k j) i).2) else rsF (rsP ln c k j) i := rfl
            have z := ih (i + 1) (by omega)
            first
              | (have hp : rsP ln c k j i = true := decide_eq_true (by omega)
                 rw [hu, if_pos hp, if_pos b101] at z
                 rw [nI_1]
                 exact z)
              | (have hp : rsP ln c k j i = true := decide_eq_true (by omega)
                 rw [hu, if_pos hp, if_neg b101] at z
                 rw [nI_1]
                 exact z)
              | (have hp : ¬ rsP ln c k j i = true := by unfold rsP; rw [decide_eq_true_eq]; omega
                 rw [hu, if_neg hp] at z
                 exact z)
theorem ct_rests {g : GT} {M : MM} {L : LL} {S : ST} {b : Nat} {x y w : Int32} (h : RC M L S) (ok : StOK b S) : CTQ g mX5_rests 6 [.ref (dq_A g 0), .int x, .int y, .int w] M L (QC M L (sp_rests S x y w)) := by
  have hL := h.2.2.1
  have hS := h.2.2.2.1
  have hA := h.2.2.2.2.1
  have okl := ok.2.2.1
  have oc := ok.2.2.2.1
  have a1 := okl.1
  have hb := ok.2.2.2.2.2.2.2
  have h64 := ok.1
  refine ct_of ok_X5_rests (lv := [some (.ref (dq_A g 0)), some (.int x), some (.int y), some (.int w), none, none, none]) rfl (Nat.le_of_ble_eq_true rfl) ?_
  refine ro_aload_n dX5_rests_0 rfl rfl ?_
  refine gf_X5_told  in_X5_rests_X5 lk_X5_rests_38 dX5_rests_1 ?_
  refine ro_iload_n dX5_rests_4 rfl rfl ?_
  refine ro_callV1 ok_X2_hasHouse (ct_hasHouse ln_16 hL.1 x) (ce_X2 ln_16) rfl rfl gX5_rests_X2_hasHouse (Nat.le_of_ble_eq_true rfl) (Nat.le_of_ble_eq_true rfl) dX5_rests_5 ?_
  refine ro_if_eq 22 dX5_rests_8 (by decide) (fun b8 => ?_) (fun b8 => ?_)
  · rw [bI_eq0] at b8
    refine ro_iconst (v := -1) dX5_rests_22 (by decide) ?_
    refine ro_iret rfl dX5_rests_23 ?_
    rw [show sp_rests S x y w = (-1, S) from by unfold sp_rests; rw [if_neg (fun z => by first | (rw [b8] at z; exact absurd z.1 (by decide)) | (rw [b19] at z; exact absurd z.2 (by decide)))]]
    exact ⟨rfl, h, OnlySc.rf.all, rfl⟩
  · rw [bI_ne0] at b8
    refine ro_aload_n dX5_rests_11 rfl rfl ?_
    refine gf_X5_told  in_X5_rests_X5 lk_X5_rests_38 dX5_rests_12 ?_
    refine ro_iload_n dX5_rests_15 rfl rfl ?_
    refine ro_callV1 ok_X2_hasHouse (ct_hasHouse ln_16 hL.1 y) (ce_X2 ln_16) rfl rfl gX5_rests_X2_hasHouse (Nat.le_of_ble_eq_true rfl) (Nat.le_of_ble_eq_true rfl) dX5_rests_16 ?_
    refine ro_if_ne 24 dX5_rests_19 (by decide) (fun b19 => ?_) (fun b19 => ?_)
    · rw [bI_ne0] at b19
      refine ro_iload_n dX5_rests_24 rfl rfl ?_
      refine ro_iload_n dX5_rests_25 rfl rfl ?_
      refine ro_icmp_eq 36 dX5_rests_26 (by decide) (fun b26 => ?_) (fun b26 => ?_)
      · refine ro_bipush (v := -2) dX5_rests_36 (by decide) ?_
        refine ro_iret rfl dX5_rests_38 ?_
        rw [show sp_rests S x y w = (-2, S) from by unfold sp_rests; rw [if_pos ⟨b8, b19⟩, if_pos (by first | exact Or.inl b26 | exact Or.inr b33)]]
        exact ⟨rfl, h, OnlySc.rf.all, rfl⟩
      · refine ro_iload_n dX5_rests_29 rfl rfl ?_
        refine ro_callS1 ok_X5_isZeroOrOne (ct_zo w) gX5_rests_X5_isZeroOrOne (Nat.le_of_ble_eq_true rfl) (Nat.le_of_ble_eq_true rfl) dX5_rests_30 ?_
        refine ro_if_ne 39 dX5_rests_33 (by decide) (fun b33 => ?_) (fun b33 => ?_)
        · rw [bI_ne0] at b33
          obtain ⟨k, hk, rfl⟩ := hB_some (by omega) b8
          obtain ⟨j, hj, rfl⟩ := hB_some (by omega) b19
          refine ro_aload_n dX5_rests_39 rfl rfl ?_
          refine ro_iload_n dX5_rests_40 rfl rfl ?_
          refine ro_iload_n dX5_rests_41 rfl rfl ?_
          refine ro_callV2Q ok_X5_fillChoices (ct_choices hL okl hS oc hk hj (by omega)) ce_X5 rfl rfl gX5_rests_X5_fillChoices (Nat.le_of_ble_eq_true rfl) (Nat.le_of_ble_eq_true rfl) dX5_rests_42 (fun v42 M42 L42 q42 => ?_)
          obtain ⟨rfl, hd42, ho42, rfl⟩ := q42
          refine ro_iconst (v := 0) dX5_rests_45 (by decide) ?_
          refine ro_istore4 dX5_rests_46 (Nat.le_of_ble_eq_true rfl) rfl ?_
          refine ro_bipush (v := -9) dX5_rests_48 (by decide) ?_
          refine ro_istore5 dX5_rests_50 (Nat.le_of_ble_eq_true rfl) rfl ?_
          refine ro_iconst (v := 0) dX5_rests_52 (by decide) ?_
          refine ro_istore6 dX5_rests_53 (Nat.le_of_ble_eq_true rfl) rfl ?_
          refine JW.mono ?_ (lp_rests (w := w) hd42 4 0 rfl)
          rintro v M' L' ⟨rfl, rfl, rfl⟩
          refine ⟨?_, h.sc ho42.sc rfl, ho42.sc.all, rfl⟩
          rw [show sp_rests S (nI k) (nI j) w = (if w = 0 then nI (rsF (rsP (st_l S) (st_c S) k j) 4).1 else (rsF (rsP (st_l S) (st_c S) k j) 4).2, S) from by unfold sp_rests; rw [if_pos ⟨b8, b19⟩, if_neg (fun z => z.elim b26 (fun z => by rw [b33] at z; cases z)), kx_nI (by omega), kx_nI (by omega)]]
        · rw [bI_eq0] at b33
          refine ro_bipush (v := -2) dX5_rests_36 (by decide) ?_
          refine ro_iret rfl dX5_rests_38 ?_
          rw [show sp_rests S x y w = (-2, S) from by unfold sp_rests; rw [if_pos ⟨b8, b19⟩, if_pos (by first | exact Or.inl b26 | exact Or.inr b33)]]
          exact ⟨rfl, h, OnlySc.rf.all, rfl⟩
    · rw [bI_eq0] at b19
      refine ro_iconst (v := -1) dX5_rests_22 (by decide) ?_
      refine ro_iret rfl dX5_rests_23 ?_
      rw [show sp_rests S x y w = (-1, S) from by unfold sp_rests; rw [if_neg (fun z => by first | (rw [b8] at z; exact absurd z.1 (by decide)) | (rw [b19] at z; exact absurd z.2 (by decide)))]]
      exact ⟨rfl, h, OnlySc.rf.all, rfl⟩
/-! years -/
def sdN (z : Int64) : Int64 := z * 6364136223846793005 + 1442695040888963407
def lotN (z : Int64) : Nat := z.toUInt64.toNat / 2 ^ 33 % 32
theorem us_33 (z : Int64) : (z.toUInt64 >>> ((33 : Int32).toInt64.toUInt64 &&& Int64.toUInt64 63)).toInt64 = lN (z.toUInt64.toNat / 2 ^ 33) := by
  apply Int64.toBitVec_inj.mp
  apply BitVec.eq_of_toNat_eq
  have h1 : ((33 : Int32).toInt64.toUInt64 &&& Int64.toUInt64 63).toNat = 33 := by decide
  have h2 := z.toUInt64.toNat_lt
  rw [show ((z.toUInt64 >>> ((33 : Int32).toInt64.toUInt64 &&& Int64.toUInt64 63)).toInt64).toBitVec.toNat = (z.toUInt64 >>> ((33 : Int32).toInt64.toUInt64 &&& Int64.toUInt64 63)).toNat from rfl, UInt64.toNat_shiftRight, h1, show 33 % 64 = 33 from rfl, Nat.shiftRight_eq_div_pow]
  show _ = (BitVec.ofNat 64 (z.toUInt64.toNat / 2 ^ 33)).toNat
  rw [BitVec.toNat_ofNat, Nat.mod_eq_of_lt (by omega)]
theorem ln_and31 (m : Nat) : lN m &&& 31 = lN (m % 32) := by
  apply Int64.toBitVec_inj.mp
  apply BitVec.eq_of_toNat_eq
  show (BitVec.ofNat 64 m &&& 31#64).toNat = (BitVec.ofNat 64 (m % 32)).toNat
  simp only [BitVec.toNat_and, BitVec.toNat_ofNat]
  rw [show 31 % 2 ^ 64 = 2 ^ 5 - 1 from rfl, Nat.and_two_pow_sub_one_eq_mod]
  omega
def lotC (l : LN) (c : SC) (v : Nat) : SC :=
  if v < 5 then (if canL (ln_n l) c v = true then lowC c v else c)
  else if v < 10 then (if canR (ln_n l) c (v - 5) = true then raiC c (v - 5) else c)
  else if v < 14 then (if canC (ln_n l) (v - 10) (v - 9) = true then chgC c (v - 10) (v - 9) else c)
  else if v < 18 then (if canP (ln_n l) (v - 14) = true then plaC c (v - 14) else c)
  else nextC l c
theorem lotC_ok {l : LN} {b v : Nat} {c : SC} (ok : LnOK l) (oc : ScOK (ln_n l) b c) : ScOK (ln_n l) (b + 1) (lotC l c v) := by
  have oc1 : ScOK (ln_n l) (b + 1) c := oc.mono (Nat.le_succ _)
  unfold lotC
  split
  · split
    · next h => exact lowC_ok oc1 h
    · exact oc1
  split
  · split
    · next h => exact raiC_ok oc1 h
    · exact oc1
  split
  · split
    · next h => exact chgC_ok oc1 h
    · exact oc1
  split
  · split
    · exact plaC_ok oc1
    · exact oc1
  · exact nextC_ok ok oc
def knAll (n : Nat) (c : SC) : Nat := smB (fun j => pop (sc_kn c j)) n
theorem smB_le {f : Nat → Nat} {w : Nat} (h : ∀ j, f j ≤ w) : ∀ n, smB f n ≤ w * n
  | 0 => Nat.le_refl _
  | n + 1 => by
    have := smB_le h n
    have h2 := h n
    rw [smB, Nat.mul_succ]
    omega
def yrF (l : LN) (z : Int64) (c : SC) : Nat → Int64 × SC × Nat
  | 0 => (z, c, 0)
  | i + 1 => (sdN (yrF l z c i).1, lotC l (yrF l z c i).2.1 (lotN (sdN (yrF l z c i).1)), (yrF l z c i).2.2 + knAll (ln_n l) (lotC l (yrF l z c i).2.1 (lotN (sdN (yrF l z c i).1))))
theorem yrF_ok {l : LN} {z : Int64} {b : Nat} {c : SC} (ok : LnOK l) (oc : ScOK (ln_n l) b c) : ∀ i, ScOK (ln_n l) (b + i) (yrF l z c i).2.1
  | 0 => oc
  | i + 1 => lotC_ok ok (yrF_ok ok oc i)
noncomputable def sp_years (S : ST) (x : Int32) : Int32 × ST := if x < 1 ∨ 30 < x then (-2, S) else (nI (yrF (st_l S) (st_s S) (st_c S) (kx x)).2.2, setS S (yrF (st_l S) (st_s S) (st_c S) (kx x)).1)
theorem ct_lot {g : GT} {M : MM} {L : LL} {ln : LN} {b v : Nat} {c : SC} (hL : LaneR M 16 ln) (ok : LnOK ln) (hS : SceneR M 34 c) (oc : ScOK (ln_n ln) b c) (hb : b < 2 ^ 29) (hv : v < 32) : CTQ g mX5_doByLot 5 [.ref (dq_A g 0), .int (nI v)] M L (fun r M' L' => r = none ∧ SceneR M' 34 (lotC ln c v) ∧ OnlyB 34 37 M M' ∧ L' = L) := by
  refine ct_of ok_X5_doByLot (lv := [some (.ref (dq_A g 0)), some (.int (nI v))]) rfl (Nat.le_of_ble_eq_true rfl) ?_
  refine ro_iload_n dX5_doByLot_0 rfl rfl ?_
  refine ro_iconst (v := 5) dX5_doByLot_1 (by decide) ?_
  refine ro_icmp_ge 17 dX5_doByLot_2 (by decide) (fun b2 => ?_) (fun b2 => ?_)
  · replace b2 : ¬ v < 5 := fun z => nI_ge (b := 5) z (by decide) b2
    refine ro_iload_n dX5_doByLot_17 rfl rfl ?_
    refine ro_bipush (v := 10) dX5_doByLot_18 (by decide) ?_
    refine ro_icmp_ge 37 dX5_doByLot_20 (by decide) (fun b20 => ?_) (fun b20 => ?_)
    · replace b20 : ¬ v < 10 := fun z => nI_ge (b := 10) z (by decide) b20
      refine ro_iload_n dX5_doByLot_37 rfl rfl ?_
      refine ro_bipush (v := 14) dX5_doByLot_38 (by decide) ?_
      refine ro_icmp_ge 62 dX5_doByLot_40 (by decide) (fun b40 => ?_) (fun b40 => ?_)
      · replace b40 : ¬ v < 14 := fun z => nI_ge (b := 14) z (by decide) b40
        refine ro_iload_n dX5_doByLot_62 rfl rfl ?_
        refine ro_bipush (v := 18) dX5_doByLot_63 (by decide) ?_
        refine ro_icmp_ge 83 dX5_doByLot_65 (by decide) (fun b65 => ?_) (fun b65 => ?_)
        · replace b65 : ¬ v < 18 := fun z => nI_ge (b := 18) z (by decide) b65
          refine ro_aload_n dX5_doByLot_83 rfl rfl ?_
          refine gf_X5_trial  in_X5_doByLot_X5 lk_X5_doByLot_56 dX5_doByLot_84 ?_
          refine ro_callV0Q ok_X4_passHour (ct_passHour sc_34 hL ok hS oc (by omega)) (ce_X4 sc_34) rfl rfl gX5_doByLot_X4_passHour (Nat.le_of_ble_eq_true rfl) (Nat.le_of_ble_eq_true rfl) dX5_doByLot_87 (fun v87 M87 L87 q87 => ?_)
          obtain ⟨rfl, hS87, ho87, rfl⟩ := q87
          refine ro_pop dX5_doByLot_90 rfl ?_
          refine ro_vret rfl dX5_doByLot_91 ?_
          unfold lotC
          first
            | (rw [if_pos b2]; exact ⟨rfl, hS10, ho10, rfl⟩)
            | (rw [if_neg b2, if_pos b20]; exact ⟨rfl, hS30, ho30, rfl⟩)
            | (rw [if_neg b2, if_neg b20, if_pos b40]; exact ⟨rfl, hS55, ho55, rfl⟩)
            | (rw [if_neg b2, if_neg b20, if_neg b40, if_pos b65]; exact ⟨rfl, hS76, ho76, rfl⟩)
            | (rw [if_neg b2, if_neg b20, if_neg b40, if_neg b65]; exact ⟨rfl, hS87, ho87, rfl⟩)
        · replace b65 : v < 18 := by rcases Nat.lt_or_ge v 18 with z | z; exact z; exact absurd (nI_le (a := 18) z (by omega)) b65
          refine ro_aload_n dX5_doByLot_68 rfl rfl ?_
          refine gf_X5_trial  in_X5_doByLot_X5 lk_X5_doByLot_56 dX5_doByLot_69 ?_
          refine ro_iload_n dX5_doByLot_72 rfl rfl ?_
          refine ro_bipush (v := 14) dX5_doByLot_73 (by decide) ?_
          refine ro_isub dX5_doByLot_75 ?_
          refine ro_top (show _ = nI (v - 14) from pk_sub (b := 14) (by omega)) ?_
          refine ro_callV1Q ok_X4_tryPlate (ct_tryP sc_34 hL ok hS oc (by omega) (by omega)) (ce_X4 sc_34) rfl rfl gX5_doByLot_X4_tryPlate (Nat.le_of_ble_eq_true rfl) (Nat.le_of_ble_eq_true rfl) dX5_doByLot_76 (fun v76 M76 L76 q76 => ?_)
          obtain ⟨rfl, hS76, ho76, rfl⟩ := q76
          refine ro_pop dX5_doByLot_79 rfl ?_
          refine ro_goto 91 dX5_doByLot_80 (by decide) ?_
          refine ro_vret rfl dX5_doByLot_91 ?_
          unfold lotC
          first
            | (rw [if_pos b2]; exact ⟨rfl, hS10, ho10, rfl⟩)
            | (rw [if_neg b2, if_pos b20]; exact ⟨rfl, hS30, ho30, rfl⟩)
            | (rw [if_neg b2, if_neg b20, if_pos b40]; exact ⟨rfl, hS55, ho55, rfl⟩)
            | (rw [if_neg b2, if_neg b20, if_neg b40, if_pos b65]; exact ⟨rfl, hS76, ho76, rfl⟩)
            | (rw [if_neg b2, if_neg b20, if_neg b40, if_neg b65]; exact ⟨rfl, hS87, ho87, rfl⟩)
      · replace b40 : v < 14 := by rcases Nat.lt_or_ge v 14 with z | z; exact z; exact absurd (nI_le (a := 14) z (by omega)) b40
        refine ro_aload_n dX5_doByLot_43 rfl rfl ?_
        refine gf_X5_trial  in_X5_doByLot_X5 lk_X5_doByLot_56 dX5_doByLot_44 ?_
        refine ro_iload_n dX5_doByLot_47 rfl rfl ?_
        refine ro_bipush (v := 10) dX5_doByLot_48 (by decide) ?_
        refine ro_isub dX5_doByLot_50 ?_
        refine ro_top (show _ = nI (v - 10) from pk_sub (b := 10) (by omega)) ?_
        refine ro_iload_n dX5_doByLot_51 rfl rfl ?_
        refine ro_bipush (v := 9) dX5_doByLot_52 (by decide) ?_
        refine ro_isub dX5_doByLot_54 ?_
        refine ro_top (show _ = nI (v - 9) from pk_sub (b := 9) (by omega)) ?_
        refine ro_callV2Q ok_X4_tryChanged (ct_tryC sc_34 hL ok hS oc (by omega) (by omega) (by omega)) (ce_X4 sc_34) rfl rfl gX5_doByLot_X4_tryChanged (Nat.le_of_ble_eq_true rfl) (Nat.le_of_ble_eq_true rfl) dX5_doByLot_55 (fun v55 M55 L55 q55 => ?_)
        obtain ⟨rfl, hS55, ho55, rfl⟩ := q55
        refine ro_pop dX5_doByLot_58 rfl ?_
        refine ro_goto 91 dX5_doByLot_59 (by decide) ?_
        refine ro_vret rfl dX5_doByLot_91 ?_
        unfold lotC
        first
          | (rw [if_pos b2]; exact ⟨rfl, hS10, ho10, rfl⟩)
          | (rw [if_neg b2, if_pos b20]; exact ⟨rfl, hS30, ho30, rfl⟩)
          | (rw [if_neg b2, if_neg b20, if_pos b40]; exact ⟨rfl, hS55, ho55, rfl⟩)
          | (rw [if_neg b2, if_neg b20, if_neg b40, if_pos b65]; exact ⟨rfl, hS76, ho76, rfl⟩)
          | (rw [if_neg b2, if_neg b20, if_neg b40, if_neg b65]; exact ⟨rfl, hS87, ho87, rfl⟩)
    · replace b20 : v < 10 := by rcases Nat.lt_or_ge v 10 with z | z; exact z; exact absurd (nI_le (a := 10) z (by omega)) b20
      refine ro_aload_n dX5_doByLot_23 rfl rfl ?_
      refine gf_X5_trial  in_X5_doByLot_X5 lk_X5_doByLot_56 dX5_doByLot_24 ?_
      refine ro_iload_n dX5_doByLot_27 rfl rfl ?_
      refine ro_iconst (v := 5) dX5_doByLot_28 (by decide) ?_
      refine ro_isub dX5_doByLot_29 ?_
      refine ro_top (show _ = nI (v - 5) from pk_sub (b := 5) (by omega)) ?_
      refine ro_callV1Q ok_X4_tryRaised (ct_tryR sc_34 hL ok hS oc (by omega) (by omega)) (ce_X4 sc_34) rfl rfl gX5_doByLot_X4_tryRaised (Nat.le_of_ble_eq_true rfl) (Nat.le_of_ble_eq_true rfl) dX5_doByLot_30 (fun v30 M30 L30 q30 => ?_)
      obtain ⟨rfl, hS30, ho30, rfl⟩ := q30
      refine ro_pop dX5_doByLot_33 rfl ?_
      refine ro_goto 91 dX5_doByLot_34 (by decide) ?_
      refine ro_vret rfl dX5_doByLot_91 ?_
      unfold lotC
      first
        | (rw [if_pos b2]; exact ⟨rfl, hS10, ho10, rfl⟩)
        | (rw [if_neg b2, if_pos b20]; exact ⟨rfl, hS30, ho30, rfl⟩)
        | (rw [if_neg b2, if_neg b20, if_pos b40]; exact ⟨rfl, hS55, ho55, rfl⟩)
        | (rw [if_neg b2, if_neg b20, if_neg b40, if_pos b65]; exact ⟨rfl, hS76, ho76, rfl⟩)
        | (rw [if_neg b2, if_neg b20, if_neg b40, if_neg b65]; exact ⟨rfl, hS87, ho87, rfl⟩)
  · replace b2 : v < 5 := by rcases Nat.lt_or_ge v 5 with z | z; exact z; exact absurd (nI_le (a := 5) z (by omega)) b2
    refine ro_aload_n dX5_doByLot_5 rfl rfl ?_
    refine gf_X5_trial  in_X5_doByLot_X5 lk_X5_doByLot_56 dX5_doByLot_6 ?_
    refine ro_iload_n dX5_doByLot_9 rfl rfl ?_
    refine ro_callV1Q ok_X4_tryLowered (ct_tryL sc_34 hL ok hS oc (by omega) (by omega)) (ce_X4 sc_34) rfl rfl gX5_doByLot_X4_tryLowered (Nat.le_of_ble_eq_true rfl) (Nat.le_of_ble_eq_true rfl) dX5_doByLot_10 (fun v10 M10 L10 q10 => ?_)
    obtain ⟨rfl, hS10, ho10, rfl⟩ := q10
    refine ro_pop dX5_doByLot_13 rfl ?_
    refine ro_goto 91 dX5_doByLot_14 (by decide) ?_
    refine ro_vret rfl dX5_doByLot_91 ?_
    unfold lotC
    first
      | (rw [if_pos b2]; exact ⟨rfl, hS10, ho10, rfl⟩)
      | (rw [if_neg b2, if_pos b20]; exact ⟨rfl, hS30, ho30, rfl⟩)
      | (rw [if_neg b2, if_neg b20, if_pos b40]; exact ⟨rfl, hS55, ho55, rfl⟩)
      | (rw [if_neg b2, if_neg b20, if_neg b40, if_pos b65]; exact ⟨rfl, hS76, ho76, rfl⟩)
      | (rw [if_neg b2, if_neg b20, if_neg b40, if_neg b65]; exact ⟨rfl, hS87, ho87, rfl⟩)
theorem lp_years {g : GT} {ln : LN} {b n : Nat} {c0 : SC} {z0 : Int64} {M0 : MM} {L0 : LL} (ok : LnOK ln) (oc : ScOK (ln_n ln) b c0) (hn : n ≤ 30) (hb : b < 2 ^ 28) : ∀ (f i : Nat), i + f = n → ∀ (M : MM) (L : LL), LaneR M 16 ln → SceneR M 34 (yrF ln z0 c0 i).2.1 → OnlyB 34 37 M0 M → L 0 = (yrF ln z0 c0 i).1 → L 102 = L0 102 → JW g mX5_years 6 (fun v M' L' => v = some (.int (nI (yrF ln z0 c0 n).2.2)) ∧ OnlyB 34 37 M0 M' ∧ L' 0 = (yrF ln z0 c0 n).1 ∧ L' 102 = L0 102) M L 29 [some (.ref (dq_A g 0)), some (.int (nI n)), some (.int (nI (yrF ln z0 c0 i).2.2)), some (.int (nI i))] [] := by
  intro f
  induction f with
  | zero =>
    intro i hi M L hL hS ho hz h102
    refine ro_iload_n dX5_years_29 rfl rfl ?_
    refine ro_iload_n dX5_years_30 rfl rfl ?_
    refine ro_icmp_ge 82 dX5_years_31 (by decide) (fun b31 => ?_) (fun b31 => ?_)
    · refine ro_iload_n dX5_years_82 rfl rfl ?_
      refine ro_iret rfl dX5_years_83 ?_
      have e : i = n := by omega
      subst e
      exact ⟨rfl, ho, hz, h102⟩
    · exact absurd (nI_le (by omega) (by omega)) b31
  | succ f ih =>
    intro i hi M L hL hS ho hz h102
    refine ro_iload_n dX5_years_29 rfl rfl ?_
    refine ro_iload_n dX5_years_30 rfl rfl ?_
    refine ro_icmp_ge 82 dX5_years_31 (by decide) (fun b31 => ?_) (fun b31 => ?_)
    · exact absurd b31 (nI_ge (by omega) (by omega))
    · refine ro_aload_n dX5_years_34 rfl rfl ?_
      refine ro_aload_n dX5_years_35 rfl rfl ?_
      refine gf_X5_seedNow  in_X5_years_X5 lk_X5_years_249 dX5_years_36 ?_
      rw [hz]
      refine ro_ldc2 dX5_years_39 lk_X5_years_253 ?_
      refine ro_lmul dX5_years_42 ?_
      refine ro_ldc2 dX5_years_43 lk_X5_years_255 ?_
      refine ro_ladd dX5_years_46 ?_
      refine pf_X5_seedNow  in_X5_years_X5 lk_X5_years_249  dX5_years_47 (fun L47 e47 => ?_)
      refine ro_aload_n dX5_years_50 rfl rfl ?_
      refine ro_aload_n dX5_years_51 rfl rfl ?_
      refine gf_X5_seedNow  in_X5_years_X5 lk_X5_years_249 dX5_years_52 ?_
      rw [show L47 0 = sdN (yrF ln z0 c0 i).1 from by rw [e47, va_up_self]; rfl]
      refine ro_bipush (v := 33) dX5_years_55 (by decide) ?_
      refine ro_lushr dX5_years_57 ?_
      rw [us_33]
      refine ro_ldc2 dX5_years_58 lk_X5_years_257 ?_
      refine ro_land dX5_years_61 ?_
      rw [ln_and31]
      refine ro_l2i dX5_years_62 ?_
      rw [lN_i]
      have hlt : lotN (sdN (yrF ln z0 c0 i).1) < 32 := Nat.mod_lt _ (by decide)
      refine ro_callV1Q ok_X5_doByLot (ct_lot (v := lotN (sdN (yrF ln z0 c0 i).1)) hL ok hS (yrF_ok ok oc i) (by omega) hlt) ce_X5 rfl rfl gX5_years_X5_doByLot (Nat.le_of_ble_eq_true rfl) (Nat.le_of_ble_eq_true rfl) dX5_years_63 (fun v63 M63 L63 q63 => ?_)
      obtain ⟨rfl, hS63, ho63, rfl⟩ := q63
      refine ro_iload_n dX5_years_66 rfl rfl ?_
      refine ro_aload_n dX5_years_67 rfl rfl ?_
      refine gf_X5_trial  in_X5_years_X5 lk_X5_years_56 dX5_years_68 ?_
      refine ro_callV0 ok_X4_allKnown (ct_allKnown sc_34 (hL.kS sc_34 ho63) ok hS63 (yrF_ok ok oc (i + 1)) (by omega)) (ce_X4 sc_34) rfl rfl gX5_years_X4_allKnown (Nat.le_of_ble_eq_true rfl) (Nat.le_of_ble_eq_true rfl) dX5_years_71 ?_
      refine ro_iadd dX5_years_74 ?_
      refine ro_istore_n2 dX5_years_75 (Nat.le_of_ble_eq_true rfl) rfl ?_
      refine ro_iincP3 dX5_years_76 (Nat.le_of_ble_eq_true rfl) rfl ?_
      refine ro_goto 29 dX5_years_79 (by decide) ?_
      rw [nI_1, nI_add]
      exact ih (i + 1) (by omega) M63 _ (hL.kS sc_34 ho63) hS63 (ho.tr ho63) (by rw [e47, va_up_self]; rfl) (by rw [e47, va_up_ne _ _ (by decide)]; exact h102)
theorem ct_years {g : GT} {M : MM} {L : LL} {S : ST} {b : Nat} {x : Int32} (h : RC M L S) (ok : StOK b S) : CTQ g mX5_years 6 [.ref (dq_A g 0), .int x] M L (QC M L (sp_years S x)) := by
  have hL := h.2.2.1
  have hS := h.2.2.2.1
  have hA := h.2.2.2.2.1
  have okl := ok.2.2.1
  have oc := ok.2.2.2.1
  have a1 := okl.1
  have hb := ok.2.2.2.2.2.2.2
  have h64 := ok.1
  refine ct_of ok_X5_years (lv := [some (.ref (dq_A g 0)), some (.int x), none, none]) rfl (Nat.le_of_ble_eq_true rfl) ?_
  refine ro_iload_n dX5_years_0 rfl rfl ?_
  refine ro_iconst (v := 1) dX5_years_1 (by decide) ?_
  refine ro_icmp_lt 11 dX5_years_2 (by decide) (fun b2 => ?_) (fun b2 => ?_)
  · refine ro_bipush (v := -2) dX5_years_11 (by decide) ?_
    refine ro_iret rfl dX5_years_13 ?_
    rw [show sp_years S x = (-2, S) from if_pos (by first | exact Or.inl b2 | exact Or.inr (Int32.not_le.mp b8))]
    exact ⟨rfl, h, OnlySc.rf.all, rfl⟩
  · refine ro_iload_n dX5_years_5 rfl rfl ?_
    refine ro_bipush (v := 30) dX5_years_6 (by decide) ?_
    refine ro_icmp_le 14 dX5_years_8 (by decide) (fun b8 => ?_) (fun b8 => ?_)
    · obtain ⟨n, hn, rfl⟩ := nI_of2 (x := x) (M := 30) (n := 30) rfl (fun z => b2 (Int32.lt_trans z (by decide))) b8
      refine ro_aload_n dX5_years_14 rfl rfl ?_
      refine gf_X5_trial  in_X5_years_X5 lk_X5_years_56 dX5_years_15 ?_
      refine ro_aload_n dX5_years_18 rfl rfl ?_
      refine gf_X5_now  in_X5_years_X5 lk_X5_years_52 dX5_years_19 ?_
      refine ro_callV1Q ok_X4_take (ct_scTake sc_34 sc_30 (by omega) hS) (ce_X4 sc_34) rfl rfl gX5_years_X4_take (Nat.le_of_ble_eq_true rfl) (Nat.le_of_ble_eq_true rfl) dX5_years_22 (fun v22 M22 L22 q22 => ?_)
      obtain ⟨rfl, hS22, ho22, rfl⟩ := q22
      have hL22 := hL.kS sc_34 ho22
      refine ro_iconst (v := 0) dX5_years_25 (by decide) ?_
      refine ro_istore_n2 dX5_years_26 (Nat.le_of_ble_eq_true rfl) rfl ?_
      refine ro_iconst (v := 0) dX5_years_27 (by decide) ?_
      refine ro_istore_n3 dX5_years_28 (Nat.le_of_ble_eq_true rfl) rfl ?_
      refine JW.mono ?_ (lp_years (z0 := st_s S) (L0 := L22) okl oc hn (by omega) n 0 (by omega) M22 _ hL22 hS22 ho22 h.2.2.2.2.2.2.2 rfl)
      rintro v M' L' ⟨rfl, ho, hz, h102⟩
      rw [show sp_years S (nI n) = _ from if_neg (fun z => z.elim b2 (Int32.not_lt.mpr b8)), kx_nI (by omega)]
      exact ⟨rfl, (h.sc (OnlySc.tri ho) rfl).seed hz, (OnlySc.tri ho).all, h102⟩
    · refine ro_bipush (v := -2) dX5_years_11 (by decide) ?_
      refine ro_iret rfl dX5_years_13 ?_
      rw [show sp_years S x = (-2, S) from if_pos (by first | exact Or.inl b2 | exact Or.inr (Int32.not_le.mp b8))]
      exact ⟨rfl, h, OnlySc.rf.all, rfl⟩
