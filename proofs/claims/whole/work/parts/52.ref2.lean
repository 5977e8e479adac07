def RActs (M : MM) (n : Nat) (l : List SC) : Prop := ∃ x : Nat, x < 14 ∧ M 102 19 = nI x ∧ M 102 18 = nI l.length ∧ l.length ≤ 14 ∧ ∀ (i : Nat) (c : SC), l[i]? = some c → ScR (M 112) (17 * ((x + 13 - i) % 14)) n c
def RKept (M : MM) (n : Nat) (k : Nat → Option SC) : Prop := ∀ j, j < 2 → M 116 j = bI (k j).isSome ∧ ∀ c, k j = some c → ScR (M 117) (17 * j) n c
def RHd (M : MM) (h : HD) : Prop := M 102 21 = nI (hd_n h) ∧ (∀ j, j < hd_n h → M 113 j = nI (hd_l h j)) ∧ (∀ j, j < hd_n h → M 114 j = nI (hd_r h j)) ∧ ∀ j, j < hd_n h → M 115 j = bI (hd_w h j)
def RR (M : MM) (L : LL) (S : ST) : Prop := RLn M (st_l S) ∧ ScR (M 107) 0 (ln_n (st_l S)) (st_c S) ∧ M 102 15 = nI (st_n S) ∧ (∀ j, j < st_n S → M 111 j = nI (st_t S j)) ∧ RActs M (ln_n (st_l S)) (st_a S) ∧ RKept M (ln_n (st_l S)) (st_k S) ∧ RHd M (st_h S) ∧ L 102 = st_s S
def QR (M : MM) (L : LL) (rs : Int32 × ST) : Option Value → MM → LL → Prop := fun v M' L' => v = some (.int rs.1) ∧ RR M' L' rs.2 ∧ OnlyB 102 117 M M' ∧ L' 0 = L 0
/-- only what the reference tries on may differ -/
def RScr (M M' : MM) : Prop := (∀ i, i ≠ 102 → i ≠ 107 → i ≠ 108 → i ≠ 109 → i ≠ 110 → M' i = M i) ∧ (∀ k, k ≠ 11 → k ≠ 12 → k ≠ 13 → k ≠ 16 → k ≠ 17 → M' 102 k = M 102 k) ∧ ∀ k, k < 17 → M' 107 k = M 107 k
theorem RScr.rf {M : MM} : RScr M M := ⟨fun _ _ _ _ _ _ => rfl, fun _ _ _ _ _ _ => rfl, fun _ _ => rfl⟩
theorem RScr.tr {M M' M'' : MM} (h : RScr M M') (h2 : RScr M' M'') : RScr M M'' := ⟨fun i a b c d e => (h2.1 i a b c d e).trans (h.1 i a b c d e), fun k a b c d e => (h2.2.1 k a b c d e).trans (h.2.1 k a b c d e), fun k hk => (h2.2.2 k hk).trans (h.2.2 k hk)⟩
theorem RScr.all {M M' : MM} (h : RScr M M') : OnlyB 102 117 M M' := fun i hi => h.1 i (by omega) (by omega) (by omega) (by omega) (by omega)
theorem RScr.lv1 {M M' : MM} (ho : OnlyB 107 107 M M') (hq : ∀ q, (q < 17 * 1 ∨ 17 * 1 + 17 ≤ q) → M' 107 q = M 107 q) : RScr M M' := ⟨fun i _ b _ _ _ => ho i (by omega), fun k _ _ _ _ _ => by rw [ho 102 (by omega)], fun k hk => hq k (by omega)⟩
theorem RActs.keep {M M' : MM} {n : Nat} {l : List SC} (h : RActs M n l) (h1 : M' 102 18 = M 102 18) (h2 : M' 102 19 = M 102 19) (h3 : M' 112 = M 112) : RActs M' n l := by
  obtain ⟨x, a1, a2, a3, a4, a5⟩ := h
  exact ⟨x, a1, h2.trans a2, h1.trans a3, a4, by rw [h3]; exact a5⟩
theorem RKept.keep {M M' : MM} {n : Nat} {k : Nat → Option SC} (h : RKept M n k) (h1 : M' 116 = M 116) (h2 : M' 117 = M 117) : RKept M' n k := by unfold RKept at h ⊢; rw [h1, h2]; exact h
theorem RHd.keep {M M' : MM} {h : HD} (hh : RHd M h) (h0 : M' 102 21 = M 102 21) (hk : ∀ i, 113 ≤ i → i ≤ 115 → M' i = M i) : RHd M' h := by
  unfold RHd at hh ⊢
  rw [h0, hk 113 (by omega) (by omega), hk 114 (by omega) (by omega), hk 115 (by omega) (by omega)]
  exact hh
theorem RR.scr {M M' : MM} {L L' : LL} {S : ST} (h : RR M L S) (hk : RScr M M') (hL : L' 102 = L 102) : RR M' L' S := by
  obtain ⟨h1, h2, h3, h4, h5, h6, h7, h8⟩ := h
  have hf : ∀ i, 103 ≤ i → (i < 107 ∨ 110 < i) → M' i = M i := fun i a b => hk.1 i (by omega) (by omega) (by omega) (by omega) (by omega)
  have hg : ∀ k, k ≠ 11 → k ≠ 12 → k ≠ 13 → k ≠ 16 → k ≠ 17 → M' 102 k = M 102 k := hk.2.1
  exact ⟨h1.keep (fun k z => hg k (by omega) (by omega) (by omega) (by omega) (by omega)) (fun i a b => hf i (by omega) (by omega)), h2.cong (fun k hk2 => by rw [Nat.zero_add]; exact hk.2.2 k hk2), (hg 15 (by omega) (by omega) (by omega) (by omega) (by omega)).trans h3, by rw [hf 111 (by omega) (by omega)]; exact h4, h5.keep (hg 18 (by omega) (by omega) (by omega) (by omega) (by omega)) (hg 19 (by omega) (by omega) (by omega) (by omega) (by omega)) (hf 112 (by omega) (by omega)), h6.keep (hf 116 (by omega) (by omega)) (hf 117 (by omega) (by omega)), h7.keep (hg 21 (by omega) (by omega) (by omega) (by omega) (by omega)) (fun i a b => hf i (by omega) (by omega)), hL.trans h8⟩
/-- a call on one level: its answer, the scene there then, the rest stays -/
def QV (lv n : Nat) (c : SC) (M : MM) (L : LL) (v0 : Option Value) : Option Value → MM → LL → Prop := fun v M' L' => v = v0 ∧ ScR (M' 107) (17 * lv) n c ∧ (∀ q, (q < 17 * lv ∨ 17 * lv + 17 ≤ q) → M' 107 q = M 107 q) ∧ OnlyB 107 107 M M' ∧ L' = L
theorem RLn.k7 {M M' : MM} {l : LN} (h : RLn M l) (ho : OnlyB 107 107 M M') : RLn M' l := h.keep (fun k _ => by rw [ho 102 (by omega)]) (fun i a b => ho i (by omega))
theorem lr_lay {g : GT} {L : LL} {M0 : MM} : ∀ (f i : Nat), i + f = 17 → ∀ M : MM, (∀ k, k < i → M 107 (17 + k) = M0 107 k) → (∀ q, q < 17 ∨ 34 ≤ q → M 107 q = M0 107 q) → OnlyB 107 107 M0 M → JW g mX6_layTrial 0 (fun v M' L' => v = none ∧ (∀ k, k < 17 → M' 107 (17 + k) = M0 107 k) ∧ (∀ q, q < 17 ∨ 34 ≤ q → M' 107 q = M0 107 q) ∧ OnlyB 107 107 M0 M' ∧ L' = L) M L 2 [some (.ref (dq_A g 102)), some (.int (nI i))] [] := by
  intro f
  induction f with
  | zero =>
    intro i hi M hr hq ho
    refine ro_iload_n dX6_layTrial_2 rfl rfl ?_
    refine ro_bipush (v := 17) dX6_layTrial_3 (by decide) ?_
    refine ro_icmp_ge 29 dX6_layTrial_5 (by decide) (fun b5 => ?_) (fun b5 => ?_)
    · refine ro_vret rfl dX6_layTrial_29 ?_
      have e : i = 17 := by omega
      subst e
      exact ⟨rfl, hr, hq, ho, rfl⟩
    · exact absurd (nI_le (a := 17) (by omega) (by omega)) b5
  | succ f ih =>
    intro i hi M hr hq ho
    refine ro_iload_n dX6_layTrial_2 rfl rfl ?_
    refine ro_bipush (v := 17) dX6_layTrial_3 (by decide) ?_
    refine ro_icmp_ge 29 dX6_layTrial_5 (by decide) (fun b5 => ?_) (fun b5 => ?_)
    · exact absurd b5 (nI_ge (b := 17) (by omega) (by decide))
    · refine ro_aload_n dX6_layTrial_8 rfl rfl ?_
      refine gf_X6_now  in_X6_layTrial_X6 lk_X6_layTrial_22 dX6_layTrial_9 ?_
      refine ro_bipush (v := 17) dX6_layTrial_12 (by decide) ?_
      refine ro_iload_n dX6_layTrial_14 rfl rfl ?_
      refine ro_iadd dX6_layTrial_15 ?_
      refine ro_top (show _ = nI (17 + i) from nI_add (17) (i)) ?_
      refine ro_aload_n dX6_layTrial_16 rfl rfl ?_
      refine gf_X6_now  in_X6_layTrial_X6 lk_X6_layTrial_22 dX6_layTrial_17 ?_
      refine ro_iload_n dX6_layTrial_20 rfl rfl ?_
      refine ro_ai ar_107 rfl (by omega) dX6_layTrial_21 ?_
      refine ro_as ar_107 rfl (by omega) dX6_layTrial_22 (fun M22 e22 => ?_)
      refine ro_iincP1 dX6_layTrial_23 (Nat.le_of_ble_eq_true rfl) rfl ?_
      refine ro_goto 2 dX6_layTrial_26 (by decide) ?_
      rw [nI_1]
      have r7 : M22 107 = upd (M 107) (17 + i) (M 107 i) := by rw [e22, va_up_self]
      refine ih (i + 1) (by omega) M22 (fun k hk => ?_) (fun q hq2 => ?_) (ho.tr (OnlyB.up e22 (by decide) (by decide)))
      · rw [r7]
        by_cases z : k = i
        · subst z; rw [pk_us]; exact hq k (by omega)
        · rw [pk_un (by omega)]; exact hr k (by omega)
      · rw [r7, pk_un (by omega)]; exact hq q hq2
theorem cr_lay0 {g : GT} {M : MM} {L : LL} : CTQ g mX6_layTrial 0 [.ref (dq_A g 102)] M L (fun v M' L' => v = none ∧ (∀ k, k < 17 → M' 107 (17 + k) = M 107 k) ∧ (∀ q, q < 17 ∨ 34 ≤ q → M' 107 q = M 107 q) ∧ OnlyB 107 107 M M' ∧ L' = L) := by
  refine ct_of ok_X6_layTrial (lv := [some (.ref (dq_A g 102)), none]) rfl (Nat.le_of_ble_eq_true rfl) ?_
  refine ro_iconst (v := 0) dX6_layTrial_0 (by decide) ?_
  refine ro_istore_n1 dX6_layTrial_1 (Nat.le_of_ble_eq_true rfl) rfl ?_
  exact lr_lay 17 0 rfl M (fun k hk => absurd hk (Nat.not_lt_zero k)) (fun _ _ => rfl) OnlyB.rf
theorem lr_goOn {g : GT} {L : LL} {ln : LN} {b n : Nat} {c : SC} {M0 : MM} (ok : LnOK ln) (oc : ScOK (ln_n ln) b c) (hb : b + n < 2 ^ 30) : ∀ (f i : Nat), i + f = n → ∀ M : MM, RLn M ln → ScR (M 107) (17 * 1) (ln_n ln) (hrsC ln i c) → (∀ q, (q < 17 * 1 ∨ 17 * 1 + 17 ≤ q) → M 107 q = M0 107 q) → OnlyB 107 107 M0 M → JW g mX6_goOn 3 (QV 1 (ln_n ln) (hrsC ln n c) M0 L (none)) M L 2 [some (.ref (dq_A g 102)), some (.int (nI n)), some (.int (nI i))] [] := by
  intro f
  induction f with
  | zero =>
    intro i hi M hL hS hq ho
    refine ro_iload_n dX6_goOn_2 rfl rfl ?_
    refine ro_iload_n dX6_goOn_3 rfl rfl ?_
    refine ro_icmp_ge 24 dX6_goOn_4 (by decide) (fun b4 => ?_) (fun b4 => ?_)
    · refine ro_vret rfl dX6_goOn_24 ?_
      have e : i = n := by omega
      subst e
      exact ⟨rfl, hS, hq, ho, rfl⟩
    · exact absurd (nI_le (by omega) (by omega)) b4
  | succ f ih =>
    intro i hi M hL hS hq ho
    have oci := hrsC_ok ok oc i
    have hhr := oci.2.2.2.2.2
    refine ro_iload_n dX6_goOn_2 rfl rfl ?_
    refine ro_iload_n dX6_goOn_3 rfl rfl ?_
    refine ro_icmp_ge 24 dX6_goOn_4 (by decide) (fun b4 => ?_) (fun b4 => ?_)
    · exact absurd b4 (nI_ge (by omega) (by omega))
    · refine ro_aload_n dX6_goOn_7 rfl rfl ?_
      refine ro_iconst (v := 1) dX6_goOn_8 (by decide) ?_
      refine ro_aload_n dX6_goOn_9 rfl rfl ?_
      refine ro_iconst (v := 1) dX6_goOn_10 (by decide) ?_
      refine ro_callV1 ok_X6_rainOn (cr_rainOn (lv := 1) (by decide) hL ok hS.2.2.2.1 (by omega)) ce_X6 rfl rfl gX6_goOn_X6_rainOn (Nat.le_of_ble_eq_true rfl) (Nat.le_of_ble_eq_true rfl) dX6_goOn_11 ?_
      refine ro_callV2Q ok_X6_hourBy (cr_hourBy (lv := 1) (by decide) hL ok hS oci (rainAt_le ok _) (by omega)) ce_X6 rfl rfl gX6_goOn_X6_hourBy (Nat.le_of_ble_eq_true rfl) (Nat.le_of_ble_eq_true rfl) dX6_goOn_14 (fun v14 M14 L14 q14 => ?_)
      obtain ⟨rfl, hS14, hq14, ho14, rfl⟩ := q14
      refine ro_pop dX6_goOn_17 rfl ?_
      refine ro_iincP2 dX6_goOn_18 (Nat.le_of_ble_eq_true rfl) rfl ?_
      refine ro_goto 2 dX6_goOn_21 (by decide) ?_
      rw [nI_1]
      exact ih (i + 1) (by omega) M14 (hL.k7 ho14) hS14 (fun q z => (hq14 q z).trans (hq q z)) (ho.tr ho14)
theorem cr_goOn {g : GT} {M : MM} {L : LL} {ln : LN} {b n : Nat} {c : SC} (hL : RLn M ln) (ok : LnOK ln) (hS : ScR (M 107) (17 * 1) (ln_n ln) c) (oc : ScOK (ln_n ln) b c) (hb : b + n < 2 ^ 30) : CTQ g mX6_goOn 3 [.ref (dq_A g 102), .int (nI n)] M L (QV 1 (ln_n ln) (hrsC ln n c) M L (none)) := by
  refine ct_of ok_X6_goOn (lv := [some (.ref (dq_A g 102)), some (.int (nI n)), none]) rfl (Nat.le_of_ble_eq_true rfl) ?_
  refine ro_iconst (v := 0) dX6_goOn_0 (by decide) ?_
  refine ro_istore_n2 dX6_goOn_1 (Nat.le_of_ble_eq_true rfl) rfl ?_
  exact lr_goOn ok oc hb n 0 (by omega) M hL hS (fun _ _ => rfl) OnlyB.rf
theorem lr_keepAct {g : GT} {L : LL} {n x : Nat} {l : List SC} {c : SC} {M0 : MM} (hS : ScR (M0 107) 0 n c) (h1 : x < 14) (h2 : M0 102 19 = nI x) (h3 : M0 102 18 = nI l.length) (h4 : l.length ≤ 14) (h5 : ∀ (i : Nat) (c : SC), l[i]? = some c → ScR (M0 112) (17 * ((x + 13 - i) % 14)) n c) : ∀ (f i : Nat), i + f = 17 → ∀ M : MM, (∀ k, k < i → M 112 (17 * x + k) = M0 107 k) → (∀ q, q < 17 * x ∨ 17 * x + 17 ≤ q → M 112 q = M0 112 q) → OnlyB 112 112 M0 M → JW g mX6_keepAct 0 (fun v M' L' => v = none ∧ RActs M' n ((c :: l).take 14) ∧ (∀ i, i ≠ 102 → i ≠ 112 → M' i = M0 i) ∧ (∀ k, k ≠ 18 → k ≠ 19 → M' 102 k = M0 102 k) ∧ L' = L) M L 2 [some (.ref (dq_A g 102)), some (.int (nI i))] [] := by
  intro f
  induction f with
  | zero =>
    intro i hi M hr hoth ho
    refine ro_iload_n dX6_keepAct_2 rfl rfl ?_
    refine ro_bipush (v := 17) dX6_keepAct_3 (by decide) ?_
    refine ro_icmp_ge 34 dX6_keepAct_5 (by decide) (fun b5 => ?_) (fun b5 => ?_)
    · refine ro_aload_n dX6_keepAct_34 rfl rfl ?_
      refine ro_aload_n dX6_keepAct_35 rfl rfl ?_
      refine gf_X6_next  in_X6_keepAct_X6 lk_X6_keepAct_143 dX6_keepAct_36 ?_
      rw [ho 102 (by omega), h2]
      refine ro_iconst (v := 1) dX6_keepAct_39 (by decide) ?_
      refine ro_iadd dX6_keepAct_40 ?_
      rw [nI_1]
      refine ro_bipush (v := 14) dX6_keepAct_41 (by decide) ?_
      refine ro_irem dX6_keepAct_43 (by decide) ?_
      refine ro_top (pk_rem (d := 14) (by omega) (by decide) (by decide)) ?_
      refine pf_X6_next  in_X6_keepAct_X6 lk_X6_keepAct_143  dX6_keepAct_44 (fun M44 e44 => ?_)
      refine ro_aload_n dX6_keepAct_47 rfl rfl ?_
      refine ro_aload_n dX6_keepAct_48 rfl rfl ?_
      refine gf_X6_acts  in_X6_keepAct_X6 lk_X6_keepAct_102 dX6_keepAct_49 ?_
      rw [show M44 102 18 = nI l.length from by rw [e44, va_up_self, pk_un (by decide), ho 102 (by omega)]; exact h3]
      refine ro_bipush (v := 14) dX6_keepAct_52 (by decide) ?_
      refine ro_icmp_ge 66 dX6_keepAct_54 (by decide) (fun b54 => ?_) (fun b54 => ?_)
      · replace b54 : 14 ≤ l.length := (nI_leI (a := 14) (by decide) (by omega)).mp b54
        refine ro_bipush (v := 14) dX6_keepAct_66 (by decide) ?_
        first
          | refine ro_top (show nI l.length + 1 = nI ((c :: l).take 14).length from by rw [nI_1, List.length_take, List.length_cons]; congr 1; omega) ?_
          | refine ro_top (show (14 : Int32) = nI ((c :: l).take 14).length from by rw [List.length_take, List.length_cons, show min 14 (l.length + 1) = 14 by omega]; rfl) ?_
        refine pf_X6_acts  in_X6_keepAct_X6 lk_X6_keepAct_102  dX6_keepAct_68 (fun M68 e68 => ?_)
        refine ro_vret rfl dX6_keepAct_71 ?_
        have e : i = 17 := by omega
        subst e
        have r2 : M68 102 = upd (upd (M 102) 19 (nI ((x + 1) % 14))) 18 (nI ((c :: l).take 14).length) := by rw [e68, va_up_self, e44, va_up_self]
        have rk : ∀ q, q ≠ 102 → M68 q = M q := fun q hq => by rw [e68, va_up_ne _ _ hq, e44, va_up_ne _ _ hq]
        refine ⟨rfl, ⟨(x + 1) % 14, Nat.mod_lt _ (by decide), by rw [r2, pk_un (by decide), pk_us], by rw [r2, pk_us], by rw [List.length_take]; omega, fun i cc hc => ?_⟩, fun q z1 z2 => by rw [rk q z1]; exact ho q (by omega), fun k z1 z2 => by rw [r2, pk_un z1, pk_un z2, ho 102 (by omega)], rfl⟩
        have hi14 : i < 14 := by have := (List.getElem?_eq_some_iff.mp hc).1; rw [List.length_take] at this; omega
        rw [List.getElem?_take_of_lt hi14] at hc
        rw [rk 112 (by decide)]
        match i, hc with
        | 0, hc =>
          simp only [List.getElem?_cons_zero, Option.some.injEq] at hc
          subst hc
          rw [show ((x + 1) % 14 + 13 - 0) % 14 = x by omega]
          exact hS.cong (fun k hk => by rw [hr k (by omega), Nat.zero_add])
        | i + 1, hc =>
          simp only [List.getElem?_cons_succ] at hc
          have h6 := h5 i cc hc
          have hil : i < l.length := (List.getElem?_eq_some_iff.mp hc).1
          rw [show ((x + 1) % 14 + 13 - (i + 1)) % 14 = (x + 13 - i) % 14 by omega]
          have hne : (x + 13 - i) % 14 ≠ x := by omega
          exact h6.cong (fun k hk => hoth _ (by omega))
      · replace b54 : ¬ 14 ≤ l.length := fun z => b54 ((nI_leI (a := 14) (by decide) (by omega)).mpr z)
        refine ro_aload_n dX6_keepAct_57 rfl rfl ?_
        refine gf_X6_acts  in_X6_keepAct_X6 lk_X6_keepAct_102 dX6_keepAct_58 ?_
        rw [show M44 102 18 = nI l.length from by rw [e44, va_up_self, pk_un (by decide), ho 102 (by omega)]; exact h3]
        refine ro_iconst (v := 1) dX6_keepAct_61 (by decide) ?_
        refine ro_iadd dX6_keepAct_62 ?_
        refine ro_goto 68 dX6_keepAct_63 (by decide) ?_
        first
          | refine ro_top (show nI l.length + 1 = nI ((c :: l).take 14).length from by rw [nI_1, List.length_take, List.length_cons]; congr 1; omega) ?_
          | refine ro_top (show (14 : Int32) = nI ((c :: l).take 14).length from by rw [List.length_take, List.length_cons, show min 14 (l.length + 1) = 14 by omega]; rfl) ?_
        refine pf_X6_acts  in_X6_keepAct_X6 lk_X6_keepAct_102  dX6_keepAct_68 (fun M68 e68 => ?_)
        refine ro_vret rfl dX6_keepAct_71 ?_
        have e : i = 17 := by omega
        subst e
        have r2 : M68 102 = upd (upd (M 102) 19 (nI ((x + 1) % 14))) 18 (nI ((c :: l).take 14).length) := by rw [e68, va_up_self, e44, va_up_self]
        have rk : ∀ q, q ≠ 102 → M68 q = M q := fun q hq => by rw [e68, va_up_ne _ _ hq, e44, va_up_ne _ _ hq]
        refine ⟨rfl, ⟨(x + 1) % 14, Nat.mod_lt _ (by decide), by rw [r2, pk_un (by decide), pk_us], by rw [r2, pk_us], by rw [List.length_take]; omega, fun i cc hc => ?_⟩, fun q z1 z2 => by rw [rk q z1]; exact ho q (by omega), fun k z1 z2 => by rw [r2, pk_un z1, pk_un z2, ho 102 (by omega)], rfl⟩
        have hi14 : i < 14 := by have := (List.getElem?_eq_some_iff.mp hc).1; rw [List.length_take] at this; omega
        rw [List.getElem?_take_of_lt hi14] at hc
        rw [rk 112 (by decide)]
        match i, hc with
        | 0, hc =>
          simp only [List.getElem?_cons_zero, Option.some.injEq] at hc
          subst hc
          rw [show ((x + 1) % 14 + 13 - 0) % 14 = x by omega]
          exact hS.cong (fun k hk => by rw [hr k (by omega), Nat.zero_add])
        | i + 1, hc =>
          simp only [List.getElem?_cons_succ] at hc
          have h6 := h5 i cc hc
          have hil : i < l.length := (List.getElem?_eq_some_iff.mp hc).1
          rw [show ((x + 1) % 14 + 13 - (i + 1)) % 14 = (x + 13 - i) % 14 by omega]
          have hne : (x + 13 - i) % 14 ≠ x := by omega
          exact h6.cong (fun k hk => hoth _ (by omega))
    · exact absurd (nI_le (a := 17) (by omega) (by omega)) b5
  | succ f ih =>
    intro i hi M hr hoth ho
    refine ro_iload_n dX6_keepAct_2 rfl rfl ?_
    refine ro_bipush (v := 17) dX6_keepAct_3 (by decide) ?_
    refine ro_icmp_ge 34 dX6_keepAct_5 (by decide) (fun b5 => ?_) (fun b5 => ?_)
    · exact absurd b5 (nI_ge (b := 17) (by omega) (by decide))
    · refine ro_aload_n dX6_keepAct_8 rfl rfl ?_
      refine gf_X6_row  in_X6_keepAct_X6 lk_X6_keepAct_37 dX6_keepAct_9 ?_
      refine ro_bipush (v := 17) dX6_keepAct_12 (by decide) ?_
      refine ro_aload_n dX6_keepAct_14 rfl rfl ?_
      refine gf_X6_next  in_X6_keepAct_X6 lk_X6_keepAct_143 dX6_keepAct_15 ?_
      rw [ho 102 (by omega), h2]
      refine ro_imul dX6_keepAct_18 ?_
      refine ro_top (show _ = nI (17 * x) from pk_mul 17 (x)) ?_
      refine ro_iload_n dX6_keepAct_19 rfl rfl ?_
      refine ro_iadd dX6_keepAct_20 ?_
      refine ro_top (show _ = nI (17 * x + i) from nI_add (17 * x) (i)) ?_
      refine ro_aload_n dX6_keepAct_21 rfl rfl ?_
      refine gf_X6_now  in_X6_keepAct_X6 lk_X6_keepAct_22 dX6_keepAct_22 ?_
      refine ro_iload_n dX6_keepAct_25 rfl rfl ?_
      refine ro_ai ar_107 rfl (by omega) dX6_keepAct_26 ?_
      refine ro_as ar_112 rfl (by omega) dX6_keepAct_27 (fun M27 e27 => ?_)
      refine ro_iincP1 dX6_keepAct_28 (Nat.le_of_ble_eq_true rfl) rfl ?_
      refine ro_goto 2 dX6_keepAct_31 (by decide) ?_
      rw [nI_1]
      have r7 : M27 112 = upd (M 112) (17 * x + i) (M 107 i) := by rw [e27, va_up_self]
      refine ih (i + 1) (by omega) M27 (fun k hk => ?_) (fun q hq2 => ?_) (ho.tr (OnlyB.up e27 (by decide) (by decide)))
      · rw [r7]
        by_cases z : k = i
        · subst z; rw [pk_us, ho 107 (by omega)]
        · rw [pk_un (by omega)]; exact hr k (by omega)
      · rw [r7, pk_un (by omega)]; exact hoth q hq2
theorem cr_keepAct {g : GT} {M : MM} {L : LL} {n : Nat} {l : List SC} {c : SC} (hA : RActs M n l) (hS : ScR (M 107) 0 n c) : CTQ g mX6_keepAct 0 [.ref (dq_A g 102)] M L (fun v M' L' => v = none ∧ RActs M' n ((c :: l).take 14) ∧ (∀ i, i ≠ 102 → i ≠ 112 → M' i = M i) ∧ (∀ k, k ≠ 18 → k ≠ 19 → M' 102 k = M 102 k) ∧ L' = L) := by
  obtain ⟨x, h1, h2, h3, h4, h5⟩ := hA
  refine ct_of ok_X6_keepAct (lv := [some (.ref (dq_A g 102)), none]) rfl (Nat.le_of_ble_eq_true rfl) ?_
  refine ro_iconst (v := 0) dX6_keepAct_0 (by decide) ?_
  refine ro_istore_n1 dX6_keepAct_1 (Nat.le_of_ble_eq_true rfl) rfl ?_
  exact lr_keepAct hS h1 h2 h3 h4 h5 17 0 rfl M (fun k hk => absurd hk (Nat.not_lt_zero k)) (fun _ _ => rfl) OnlyB.rf
/-- behind an act on the reference's side -/
theorem RR.act {M M1 M' : MM} {L : LL} {S : ST} {c : SC} (h : RR M L S) (hA : RActs M1 (ln_n (st_l S)) ((st_c S :: st_a S).take 14)) (ho : ∀ i, i ≠ 102 → i ≠ 112 → M1 i = M i) (hf : ∀ k, k ≠ 18 → k ≠ 19 → M1 102 k = M 102 k) (hS : ScR (M' 107) (17 * 0) (ln_n (st_l S)) c) (h7 : OnlyB 107 107 M1 M') : RR M' L (setA S c) ∧ OnlyB 102 117 M M' := by
  have hg : ∀ i, i ≠ 102 → i ≠ 112 → i ≠ 107 → M' i = M i := fun i a b d => (h7 i (by omega)).trans (ho i a b)
  have hr : ∀ k, k ≠ 18 → k ≠ 19 → M' 102 k = M 102 k := fun k a b => by rw [h7 102 (by omega)]; exact hf k a b
  obtain ⟨h1, h2, h3, h4, h5, h6, h8, h9⟩ := h
  refine ⟨⟨h1.keep (fun k z => hr k (by omega) (by omega)) (fun i a b => hg i (by omega) (by omega) (by omega)), hS, (hr 15 (by omega) (by omega)).trans h3, by rw [hg 111 (by omega) (by omega) (by omega)]; exact h4, hA.keep (by rw [h7 102 (by omega)]) (by rw [h7 102 (by omega)]) (h7 112 (by omega)), h6.keep (hg 116 (by omega) (by omega) (by omega)) (hg 117 (by omega) (by omega) (by omega)), h8.keep (hr 21 (by omega) (by omega)) (fun i a b => hg i (by omega) (by omega) (by omega)), h9⟩, fun i hi => hg i (by omega) (by omega) (by omega)⟩
theorem cr_hour {g : GT} {M : MM} {L : LL} {S : ST} {b : Nat} (h : RR M L S) (ok : StOK b S) : CTQ g mX6_hour 3 [.ref (dq_A g 102)] M L (QR M L (sp_hour S)) := by
  have hL := h.1
  have hS : ScR (M 107) (17 * 0) (ln_n (st_l S)) (st_c S) := h.2.1
  have hA := h.2.2.2.2.1
  have okl := ok.2.2.1
  have oc := ok.2.2.2.1
  have a1 := okl.1
  have hb := ok.2.2.2.2.2.2.2
  have h64 := ok.1
  refine ct_of ok_X6_hour (lv := [some (.ref (dq_A g 102))]) rfl (Nat.le_of_ble_eq_true rfl) ?_
  refine ro_aload_n dX6_hour_0 rfl rfl ?_
  refine ro_callV0Q ok_X6_keepAct (cr_keepAct hA h.2.1) ce_X6 rfl rfl gX6_hour_X6_keepAct (Nat.le_of_ble_eq_true rfl) (Nat.le_of_ble_eq_true rfl) dX6_hour_1 (fun v1 M1 L1 q1 => ?_)
  obtain ⟨rfl, hA1, ho1, hf1, rfl⟩ := q1
  have hS1 : ScR (M1 107) (17 * 0) (ln_n (st_l S)) (st_c S) := by rw [ho1 107 (by decide) (by decide)]; exact hS
  have hL1 : RLn M1 (st_l S) := hL.keep (fun k z => hf1 k (by omega) (by omega)) (fun i a b => ho1 i (by omega) (by omega))
  refine ro_aload_n dX6_hour_4 rfl rfl ?_
  refine ro_iconst (v := 0) dX6_hour_5 (by decide) ?_
  refine ro_aload_n dX6_hour_6 rfl rfl ?_
  refine ro_iconst (v := 0) dX6_hour_7 (by decide) ?_
  refine ro_callV1 ok_X6_rainOn (cr_rainOn (lv := 0) (by decide) hL1 okl hS1.2.2.2.1 (by have := oc.2.2.2.2.2; omega)) ce_X6 rfl rfl gX6_hour_X6_rainOn (Nat.le_of_ble_eq_true rfl) (Nat.le_of_ble_eq_true rfl) dX6_hour_8 ?_
  refine ro_callV2Q ok_X6_hourBy (cr_hourBy (lv := 0) (by decide) hL1 okl hS1 oc (rainAt_le okl _) (by omega)) ce_X6 rfl rfl gX6_hour_X6_hourBy (Nat.le_of_ble_eq_true rfl) (Nat.le_of_ble_eq_true rfl) dX6_hour_11 (fun v11 M11 L11 q11 => ?_)
  obtain ⟨rfl, hS11, hq11, ho11, rfl⟩ := q11
  refine ro_iret rfl dX6_hour_14 ?_
  have z := h.act hA1 ho1 hf1 hS11 ho11
  exact ⟨rfl, z.1, z.2, rfl⟩
theorem cr_lower {g : GT} {M : MM} {L : LL} {S : ST} {b : Nat} {x : Int32} (h : RR M L S) (ok : StOK b S) : CTQ g mX6_lower 2 [.ref (dq_A g 102), .int x] M L (QR M L (sp_lower S x)) := by
  have hL := h.1
  have hS : ScR (M 107) (17 * 0) (ln_n (st_l S)) (st_c S) := h.2.1
  have hA := h.2.2.2.2.1
  have okl := ok.2.2.1
  have oc := ok.2.2.2.1
  have a1 := okl.1
  have hb := ok.2.2.2.2.2.2.2
  have h64 := ok.1
  refine ct_of ok_X6_lower (lv := [some (.ref (dq_A g 102)), some (.int x)]) rfl (Nat.le_of_ble_eq_true rfl) ?_
  refine ro_aload_n dX6_lower_0 rfl rfl ?_
  refine ro_iload_n dX6_lower_1 rfl rfl ?_
  refine ro_callV1 ok_X6_isHouse (cr_isHouse hL okl x) ce_X6 rfl rfl gX6_lower_X6_isHouse (Nat.le_of_ble_eq_true rfl) (Nat.le_of_ble_eq_true rfl) dX6_lower_2 ?_
  refine ro_if_ne 10 dX6_lower_5 (by decide) (fun b5 => ?_) (fun b5 => ?_)
  · rw [bI_ne0] at b5
    obtain ⟨k, hk, rfl⟩ := hB_some (by omega) b5
    refine ro_aload_n dX6_lower_10 rfl rfl ?_
    refine gf_X6_now  in_X6_lower_X6 lk_X6_lower_22 dX6_lower_11 ?_
    refine ro_bipush (v := 10) dX6_lower_14 (by decide) ?_
    refine ro_iload_n dX6_lower_16 rfl rfl ?_
    refine ro_iadd dX6_lower_17 ?_
    refine ro_top (show _ = nI (10 + k) from nI_add (10) (k)) ?_
    refine ro_ai ar_107 rfl (by omega) dX6_lower_18 ?_
    have hv := oc.2.2.2.1 k
    rw [show M 107 (10 + k) = oI (sc_vo (st_c S) k) from hS.2.2.1 k (by omega)]
    refine ro_bipush (v := -3) dX6_lower_19 (by decide) ?_
    refine ro_icmp_ne 27 dX6_lower_21 (by decide) (fun b21 => ?_) (fun b21 => ?_)
    · replace b21 : ¬ sc_vo (st_c S) k = -3 := fun z => b21 (by rw [z]; rfl)
      have hcn : canL (ln_n (st_l S)) (st_c S) k = true := by unfold canL; rw [decide_eq_true hk, decide_eq_true (by omega)]; rfl
      refine ro_aload_n dX6_lower_27 rfl rfl ?_
      refine ro_callV0Q ok_X6_keepAct (cr_keepAct hA h.2.1) ce_X6 rfl rfl gX6_lower_X6_keepAct (Nat.le_of_ble_eq_true rfl) (Nat.le_of_ble_eq_true rfl) dX6_lower_28 (fun v28 M28 L28 q28 => ?_)
      obtain ⟨rfl, hA28, ho28, hf28, rfl⟩ := q28
      have hS28 : ScR (M28 107) (17 * 0) (ln_n (st_l S)) (st_c S) := by rw [ho28 107 (by decide) (by decide)]; exact hS
      have hL28 : RLn M28 (st_l S) := hL.keep (fun k z => hf28 k (by omega) (by omega)) (fun i a b => ho28 i (by omega) (by omega))
      refine ro_aload_n dX6_lower_31 rfl rfl ?_
      refine gf_X6_now  in_X6_lower_X6 lk_X6_lower_22 dX6_lower_32 ?_
      refine ro_bipush (v := 10) dX6_lower_35 (by decide) ?_
      refine ro_iload_n dX6_lower_37 rfl rfl ?_
      refine ro_iadd dX6_lower_38 ?_
      refine ro_top (show _ = nI (10 + k) from nI_add (10) (k)) ?_
      refine ro_dup2 dX6_lower_39 rfl rfl ?_
      refine ro_ai ar_107 rfl (by omega) dX6_lower_40 ?_
      rw [show M28 107 (10 + k) = oI (sc_vo (st_c S) k) from hS28.2.2.1 k (by omega)]
      refine ro_iconst (v := 1) dX6_lower_41 (by decide) ?_
      refine ro_isub dX6_lower_42 ?_
      rw [show (1 : Int32) = oI 1 from rfl, oI_sub]
      refine ro_as ar_107 rfl (by omega) dX6_lower_43 (fun M43 e43 => ?_)
      refine ro_aload_n dX6_lower_44 rfl rfl ?_
      refine gf_X6_now  in_X6_lower_X6 lk_X6_lower_22 dX6_lower_45 ?_
      refine ro_bipush (v := 10) dX6_lower_48 (by decide) ?_
      refine ro_iload_n dX6_lower_50 rfl rfl ?_
      refine ro_iadd dX6_lower_51 ?_
      refine ro_top (show _ = nI (10 + k) from nI_add (10) (k)) ?_
      refine ro_ai ar_107 rfl (by omega) dX6_lower_52 ?_
      rw [show M43 107 (10 + k) = oI (sc_vo (st_c S) k - 1) from by rw [e43, va_up_self, pk_us]]
      refine ro_iret rfl dX6_lower_53 ?_
      rw [show sp_lower S (nI k) = _ from (if_pos b5).trans (if_pos (by rw [kx_nI (by omega)]; exact hcn)), kx_nI (by omega)]
      have r7 : M43 107 = upd (M28 107) (10 + k) (oI (sc_vo (st_c S) k - 1)) := by rw [e43, va_up_self]
      have z := h.act (c := lowC (st_c S) k) hA28 ho28 hf28 (M' := M43) ?_ (OnlyB.up e43 (by decide) (by decide))
      · exact ⟨rfl, z.1, z.2, rfl⟩
      · obtain ⟨h1, ⟨gk, h2, h3⟩, h4, h5, h6⟩ := hS28
        rw [r7]
        refine ⟨fun j hj => by rw [pk_un (by omega)]; exact h1 j hj, ⟨gk, fun q hq => by rw [pk_un (by omega)]; exact h2 q hq, h3⟩, fun j hj => ?_, by rw [pk_un (by omega)]; exact h5, by rw [pk_un (by omega)]; exact h6⟩
        show _ = oI (va_up (sc_vo (st_c S)) k (sc_vo (st_c S) k - 1) j)
        by_cases e : j = k
        · subst e; rw [va_up_self, show 17 * 0 + 10 + j = 10 + j by omega, pk_us]
        · rw [va_up_ne _ _ e, pk_un (by omega)]; exact h4 j hj
    · replace b21 : sc_vo (st_c S) k = -3 := (oI_eq (b := -3) (by omega) (by omega) (by omega) (by omega)).mp b21
      have hcn : canL (ln_n (st_l S)) (st_c S) k = false := by unfold canL; rw [b21, Bool.and_comm]; rfl
      refine ro_bipush (v := -3) dX6_lower_24 (by decide) ?_
      refine ro_iret rfl dX6_lower_26 ?_
      rw [show sp_lower S (nI k) = (-3, S) from (if_pos b5).trans (if_neg (by rw [kx_nI (by omega), hcn]; decide))]
      exact ⟨rfl, h, RScr.rf.all, rfl⟩
  · rw [bI_eq0] at b5
    refine ro_iconst (v := -1) dX6_lower_8 (by decide) ?_
    refine ro_iret rfl dX6_lower_9 ?_
    rw [show sp_lower S x = (-1, S) from if_neg (by rw [b5]; decide)]
    exact ⟨rfl, h, RScr.rf.all, rfl⟩
theorem cr_raise {g : GT} {M : MM} {L : LL} {S : ST} {b : Nat} {x : Int32} (h : RR M L S) (ok : StOK b S) : CTQ g mX6_raise 2 [.ref (dq_A g 102), .int x] M L (QR M L (sp_raise S x)) := by
  have hL := h.1
  have hS : ScR (M 107) (17 * 0) (ln_n (st_l S)) (st_c S) := h.2.1
  have hA := h.2.2.2.2.1
  have okl := ok.2.2.1
  have oc := ok.2.2.2.1
  have a1 := okl.1
  have hb := ok.2.2.2.2.2.2.2
  have h64 := ok.1
  refine ct_of ok_X6_raise (lv := [some (.ref (dq_A g 102)), some (.int x)]) rfl (Nat.le_of_ble_eq_true rfl) ?_
  refine ro_aload_n dX6_raise_0 rfl rfl ?_
  refine ro_iload_n dX6_raise_1 rfl rfl ?_
  refine ro_callV1 ok_X6_isHouse (cr_isHouse hL okl x) ce_X6 rfl rfl gX6_raise_X6_isHouse (Nat.le_of_ble_eq_true rfl) (Nat.le_of_ble_eq_true rfl) dX6_raise_2 ?_
  refine ro_if_ne 10 dX6_raise_5 (by decide) (fun b5 => ?_) (fun b5 => ?_)
  · rw [bI_ne0] at b5
    obtain ⟨k, hk, rfl⟩ := hB_some (by omega) b5
    refine ro_aload_n dX6_raise_10 rfl rfl ?_
    refine gf_X6_now  in_X6_raise_X6 lk_X6_raise_22 dX6_raise_11 ?_
    refine ro_bipush (v := 10) dX6_raise_14 (by decide) ?_
    refine ro_iload_n dX6_raise_16 rfl rfl ?_
    refine ro_iadd dX6_raise_17 ?_
    refine ro_top (show _ = nI (10 + k) from nI_add (10) (k)) ?_
    refine ro_ai ar_107 rfl (by omega) dX6_raise_18 ?_
    have hv := oc.2.2.2.1 k
    rw [show M 107 (10 + k) = oI (sc_vo (st_c S) k) from hS.2.2.1 k (by omega)]
    refine ro_iconst (v := 3) dX6_raise_19 (by decide) ?_
    refine ro_icmp_ne 26 dX6_raise_20 (by decide) (fun b20 => ?_) (fun b20 => ?_)
    · replace b20 : ¬ sc_vo (st_c S) k = 3 := fun z => b20 (by rw [z]; rfl)
      have hcn : canR (ln_n (st_l S)) (st_c S) k = true := by unfold canR; rw [decide_eq_true hk, decide_eq_true (by omega)]; rfl
      refine ro_aload_n dX6_raise_26 rfl rfl ?_
      refine ro_callV0Q ok_X6_keepAct (cr_keepAct hA h.2.1) ce_X6 rfl rfl gX6_raise_X6_keepAct (Nat.le_of_ble_eq_true rfl) (Nat.le_of_ble_eq_true rfl) dX6_raise_27 (fun v27 M27 L27 q27 => ?_)
      obtain ⟨rfl, hA27, ho27, hf27, rfl⟩ := q27
      have hS27 : ScR (M27 107) (17 * 0) (ln_n (st_l S)) (st_c S) := by rw [ho27 107 (by decide) (by decide)]; exact hS
      have hL27 : RLn M27 (st_l S) := hL.keep (fun k z => hf27 k (by omega) (by omega)) (fun i a b => ho27 i (by omega) (by omega))
      refine ro_aload_n dX6_raise_30 rfl rfl ?_
      refine gf_X6_now  in_X6_raise_X6 lk_X6_raise_22 dX6_raise_31 ?_
      refine ro_bipush (v := 10) dX6_raise_34 (by decide) ?_
      refine ro_iload_n dX6_raise_36 rfl rfl ?_
      refine ro_iadd dX6_raise_37 ?_
      refine ro_top (show _ = nI (10 + k) from nI_add (10) (k)) ?_
      refine ro_dup2 dX6_raise_38 rfl rfl ?_
      refine ro_ai ar_107 rfl (by omega) dX6_raise_39 ?_
      rw [show M27 107 (10 + k) = oI (sc_vo (st_c S) k) from hS27.2.2.1 k (by omega)]
      refine ro_iconst (v := 1) dX6_raise_40 (by decide) ?_
      refine ro_iadd dX6_raise_41 ?_
      rw [show (1 : Int32) = oI 1 from rfl, oI_add]
      refine ro_as ar_107 rfl (by omega) dX6_raise_42 (fun M42 e42 => ?_)
      refine ro_aload_n dX6_raise_43 rfl rfl ?_
      refine gf_X6_now  in_X6_raise_X6 lk_X6_raise_22 dX6_raise_44 ?_
      refine ro_bipush (v := 10) dX6_raise_47 (by decide) ?_
      refine ro_iload_n dX6_raise_49 rfl rfl ?_
      refine ro_iadd dX6_raise_50 ?_
      refine ro_top (show _ = nI (10 + k) from nI_add (10) (k)) ?_
      refine ro_ai ar_107 rfl (by omega) dX6_raise_51 ?_
      rw [show M42 107 (10 + k) = oI (sc_vo (st_c S) k + 1) from by rw [e42, va_up_self, pk_us]]
      refine ro_iret rfl dX6_raise_52 ?_
      rw [show sp_raise S (nI k) = _ from (if_pos b5).trans (if_pos (by rw [kx_nI (by omega)]; exact hcn)), kx_nI (by omega)]
      have r7 : M42 107 = upd (M27 107) (10 + k) (oI (sc_vo (st_c S) k + 1)) := by rw [e42, va_up_self]
      have z := h.act (c := raiC (st_c S) k) hA27 ho27 hf27 (M' := M42) ?_ (OnlyB.up e42 (by decide) (by decide))
      · exact ⟨rfl, z.1, z.2, rfl⟩
      · obtain ⟨h1, ⟨gk, h2, h3⟩, h4, h5, h6⟩ := hS27
        rw [r7]
        refine ⟨fun j hj => by rw [pk_un (by omega)]; exact h1 j hj, ⟨gk, fun q hq => by rw [pk_un (by omega)]; exact h2 q hq, h3⟩, fun j hj => ?_, by rw [pk_un (by omega)]; exact h5, by rw [pk_un (by omega)]; exact h6⟩
        show _ = oI (va_up (sc_vo (st_c S)) k (sc_vo (st_c S) k + 1) j)
        by_cases e : j = k
        · subst e; rw [va_up_self, show 17 * 0 + 10 + j = 10 + j by omega, pk_us]
        · rw [va_up_ne _ _ e, pk_un (by omega)]; exact h4 j hj
    · replace b20 : sc_vo (st_c S) k = 3 := (oI_eq (b := 3) (by omega) (by omega) (by omega) (by omega)).mp b20
      have hcn : canR (ln_n (st_l S)) (st_c S) k = false := by unfold canR; rw [b20, Bool.and_comm]; rfl
      refine ro_bipush (v := -3) dX6_raise_23 (by decide) ?_
      refine ro_iret rfl dX6_raise_25 ?_
      rw [show sp_raise S (nI k) = (-3, S) from (if_pos b5).trans (if_neg (by rw [kx_nI (by omega), hcn]; decide))]
      exact ⟨rfl, h, RScr.rf.all, rfl⟩
  · rw [bI_eq0] at b5
    refine ro_iconst (v := -1) dX6_raise_8 (by decide) ?_
    refine ro_iret rfl dX6_raise_9 ?_
    rw [show sp_raise S x = (-1, S) from if_neg (by rw [b5]; decide)]
    exact ⟨rfl, h, RScr.rf.all, rfl⟩
