/-- the row of acts: the scenes ahead of them, the last one first -/
def ActsR (M : MM) (l : List SC) : Prop := ∃ o : Nat, o < 14 ∧ M 10 1 = nI o ∧ M 10 2 = nI l.length ∧ l.length ≤ 14 ∧ ∀ (i : Nat) (c : SC), l[i]? = some c → SceneR M (38 + 4 * ((o + (l.length - 1 - i)) % 14)) c
def OnlyA (M M' : MM) : Prop := ∀ i, i ≠ 10 → (i < 38 ∨ 93 < i) → M' i = M i
theorem ActsR.keep {M M' : MM} {l : List SC} (h : ActsR M l) (h0 : M' 10 = M 10) (hk : ∀ i, 38 ≤ i → i ≤ 93 → M' i = M i) : ActsR M' l := by
  obtain ⟨o, h1, h2, h3, h4, h5⟩ := h
  refine ⟨o, h1, by rw [h0]; exact h2, by rw [h0]; exact h3, h4, fun i c hc => (h5 i c hc).keep (fun q hq1 hq2 => hk q (by omega) ?_)⟩
  have := Nat.mod_lt (o + (l.length - 1 - i)) (show 0 < 14 by decide)
  omega
theorem ct_forget {g : GT} {M : MM} {L : LL} : CTQ g mX0_forget 0 [.ref (dq_A g 10)] M L (fun v M' L' => v = none ∧ ActsR M' [] ∧ OnlyB 10 10 M M' ∧ L' = L) := by
  refine ct_of ok_X0_forget (lv := [some (.ref (dq_A g 10))]) rfl (Nat.le_of_ble_eq_true rfl) ?_
  refine ro_aload_n dX0_forget_0 rfl rfl ?_
  refine ro_iconst (v := 0) dX0_forget_1 (by decide) ?_
  refine pf_X0_oldest  in_X0_forget_X0 lk_X0_forget_20  dX0_forget_2 (fun M2 e2 => ?_)
  refine ro_aload_n dX0_forget_5 rfl rfl ?_
  refine ro_iconst (v := 0) dX0_forget_6 (by decide) ?_
  refine pf_X0_size  in_X0_forget_X0 lk_X0_forget_24  dX0_forget_7 (fun M7 e7 => ?_)
  refine ro_vret rfl dX0_forget_10 ?_
  refine ⟨rfl, ⟨0, by decide, ?_, ?_, by decide, fun i c hc => by simp at hc⟩, (OnlyB.up e2 (by decide) (by decide)).tr (OnlyB.up e7 (by decide) (by decide)), rfl⟩
  · rw [e7, va_up_self, pk_un (by decide), e2, va_up_self, pk_us]; rfl
  · rw [e7, va_up_self, pk_us]; rfl
theorem ct_note {g : GT} {M : MM} {L : LL} {l : List SC} {c : SC} (hA : ActsR M l) (hS : SceneR M 30 c) : CTQ g mX0_note 2 [.ref (dq_A g 10), .ref (dq_A g 30)] M L (fun v M' L' => v = none ∧ ActsR M' ((c :: l).take 14) ∧ OnlyA M M' ∧ L' = L) := by
  obtain ⟨o, h1, h2, h3, h4, h5⟩ := hA
  have hm : (o + l.length) % 14 < 14 := Nat.mod_lt _ (by decide)
  refine ct_of ok_X0_note (lv := [some (.ref (dq_A g 10)), some (.ref (dq_A g 30))]) rfl (Nat.le_of_ble_eq_true rfl) ?_
  refine ro_aload_n dX0_note_0 rfl rfl ?_
  refine gf_X0_ahead  in_X0_note_X0 lk_X0_note_11 dX0_note_1 ?_
  refine ro_aload_n dX0_note_4 rfl rfl ?_
  refine gf_X0_oldest  in_X0_note_X0 lk_X0_note_20 dX0_note_5 ?_
  rw [h2]
  refine ro_aload_n dX0_note_8 rfl rfl ?_
  refine gf_X0_size  in_X0_note_X0 lk_X0_note_24 dX0_note_9 ?_
  rw [h3]
  refine ro_iadd dX0_note_12 ?_
  rw [nI_add]
  refine ro_bipush (v := 14) dX0_note_13 (by decide) ?_
  refine ro_irem dX0_note_15 (by decide) ?_
  refine ro_top (pk_rem (d := 14) (by omega) (by decide) (by decide)) ?_
  refine ro_ri sr_11 rfl hm dX0_note_16 ?_
  refine ro_aload_n dX0_note_17 rfl rfl ?_
  refine ro_callV1Q ok_X4_take (ct_scTake (sc_ah hm) sc_30 (by omega) hS) (ce_X4 (sc_ah hm)) rfl rfl gX0_note_X4_take (Nat.le_of_ble_eq_true rfl) (Nat.le_of_ble_eq_true rfl) dX0_note_18 (fun v18 M18 L18 q18 => ?_)
  obtain ⟨rfl, hS18, ho18, rfl⟩ := q18
  refine ro_aload_n dX0_note_21 rfl rfl ?_
  refine gf_X0_size  in_X0_note_X0 lk_X0_note_24 dX0_note_22 ?_
  rw [ho18 10 (by omega), h3]
  refine ro_bipush (v := 14) dX0_note_25 (by decide) ?_
  refine ro_icmp_ge 43 dX0_note_27 (by decide) (fun b27 => ?_) (fun b27 => ?_)
  · replace b27 : 14 ≤ l.length := (nI_leI (a := 14) (by decide) (by omega)).mp b27
    refine ro_aload_n dX0_note_43 rfl rfl ?_
    refine ro_aload_n dX0_note_44 rfl rfl ?_
    refine gf_X0_oldest  in_X0_note_X0 lk_X0_note_20 dX0_note_45 ?_
    rw [ho18 10 (by omega), h2]
    refine ro_iconst (v := 1) dX0_note_48 (by decide) ?_
    refine ro_iadd dX0_note_49 ?_
    rw [nI_1]
    refine ro_bipush (v := 14) dX0_note_50 (by decide) ?_
    refine ro_irem dX0_note_52 (by decide) ?_
    refine ro_top (pk_rem (d := 14) (by omega) (by decide) (by decide)) ?_
    refine pf_X0_oldest  in_X0_note_X0 lk_X0_note_20  dX0_note_53 (fun M53 e53 => ?_)
    refine ro_vret rfl dX0_note_56 ?_
    first
      | (have q1 : OnlyA M M37 := fun i hi hj => by rw [e37, va_up_ne _ _ hi]; exact ho18 i (by omega)
         refine ⟨rfl, ⟨o, h1, ?_, ?_, ?_, ?_⟩, q1, rfl⟩
         · rw [e37, va_up_self, pk_un (by decide), ho18 10 (by omega)]; exact h2
         · rw [e37, va_up_self, pk_us, List.take_of_length_le (by simp; omega)]; rfl
         · simp; omega
         · rw [List.take_of_length_le (by simp; omega)]
           intro i x hx
           match i, hx with
           | 0, hx =>
             simp only [List.getElem?_cons_zero, Option.some.injEq] at hx
             subst hx
             rw [List.length_cons, Nat.add_sub_cancel, Nat.sub_zero]
             exact hS18.keep (fun q hq1 hq2 => by rw [e37, va_up_ne _ _ (by omega)])
           | i + 1, hx =>
             simp only [List.getElem?_cons_succ] at hx
             have hil : i < l.length := (List.getElem?_eq_some_iff.mp hx).1
             have h6 := h5 i x hx
             rw [List.length_cons, show l.length + 1 - 1 - (i + 1) = l.length - 1 - i by omega]
             have hne : (o + (l.length - 1 - i)) % 14 ≠ (o + l.length) % 14 := by omega
             have hlt := Nat.mod_lt (o + (l.length - 1 - i)) (show 0 < 14 by decide)
             exact h6.keep (fun q hq1 hq2 => by rw [e37, va_up_ne _ _ (by omega)]; exact ho18 q (by omega)))
      | (have hl : l.length = 14 := by omega
         have q1 : OnlyA M M53 := fun i hi hj => by rw [e53, va_up_ne _ _ hi]; exact ho18 i (by omega)
         refine ⟨rfl, ⟨(o + 1) % 14, Nat.mod_lt _ (by decide), ?_, ?_, ?_, ?_⟩, q1, rfl⟩
         · rw [e53, va_up_self, pk_us]
         · rw [e53, va_up_self, pk_un (by decide), ho18 10 (by omega), h3, List.length_take, List.length_cons]; congr 1; omega
         · rw [List.length_take, List.length_cons]; omega
         · intro i x hx
           have hi14 : i < 14 := by have := (List.getElem?_eq_some_iff.mp hx).1; rw [List.length_take] at this; omega
           rw [List.getElem?_take_of_lt hi14] at hx
           have hlen : (List.take 14 (c :: l)).length = 14 := by rw [List.length_take, List.length_cons]; omega
           rw [hlen]
           match i, hx with
           | 0, hx =>
             simp only [List.getElem?_cons_zero, Option.some.injEq] at hx
             subst hx
             rw [show ((o + 1) % 14 + (14 - 1 - 0)) % 14 = (o + l.length) % 14 by omega]
             exact hS18.keep (fun q hq1 hq2 => by rw [e53, va_up_ne _ _ (by omega)])
           | i + 1, hx =>
             simp only [List.getElem?_cons_succ] at hx
             have h6 := h5 i x hx
             rw [show ((o + 1) % 14 + (14 - 1 - (i + 1))) % 14 = (o + (l.length - 1 - i)) % 14 by omega]
             have hne : (o + (l.length - 1 - i)) % 14 ≠ (o + l.length) % 14 := by omega
             have hlt := Nat.mod_lt (o + (l.length - 1 - i)) (show 0 < 14 by decide)
             exact h6.keep (fun q hq1 hq2 => by rw [e53, va_up_ne _ _ (by omega)]; exact ho18 q (by omega)))
  · replace b27 : ¬ 14 ≤ l.length := fun z => b27 ((nI_leI (a := 14) (by decide) (by omega)).mpr z)
    refine ro_aload_n dX0_note_30 rfl rfl ?_
    refine ro_dup dX0_note_31 rfl ?_
    refine gf_X0_size  in_X0_note_X0 lk_X0_note_24 dX0_note_32 ?_
    rw [ho18 10 (by omega), h3]
    refine ro_iconst (v := 1) dX0_note_35 (by decide) ?_
    refine ro_iadd dX0_note_36 ?_
    rw [nI_1]
    refine pf_X0_size  in_X0_note_X0 lk_X0_note_24  dX0_note_37 (fun M37 e37 => ?_)
    refine ro_goto 56 dX0_note_40 (by decide) ?_
    refine ro_vret rfl dX0_note_56 ?_
    first
      | (have q1 : OnlyA M M37 := fun i hi hj => by rw [e37, va_up_ne _ _ hi]; exact ho18 i (by omega)
         refine ⟨rfl, ⟨o, h1, ?_, ?_, ?_, ?_⟩, q1, rfl⟩
         · rw [e37, va_up_self, pk_un (by decide), ho18 10 (by omega)]; exact h2
         · rw [e37, va_up_self, pk_us, List.take_of_length_le (by simp; omega)]; rfl
         · simp; omega
         · rw [List.take_of_length_le (by simp; omega)]
           intro i x hx
           match i, hx with
           | 0, hx =>
             simp only [List.getElem?_cons_zero, Option.some.injEq] at hx
             subst hx
             rw [List.length_cons, Nat.add_sub_cancel, Nat.sub_zero]
             exact hS18.keep (fun q hq1 hq2 => by rw [e37, va_up_ne _ _ (by omega)])
           | i + 1, hx =>
             simp only [List.getElem?_cons_succ] at hx
             have hil : i < l.length := (List.getElem?_eq_some_iff.mp hx).1
             have h6 := h5 i x hx
             rw [List.length_cons, show l.length + 1 - 1 - (i + 1) = l.length - 1 - i by omega]
             have hne : (o + (l.length - 1 - i)) % 14 ≠ (o + l.length) % 14 := by omega
             have hlt := Nat.mod_lt (o + (l.length - 1 - i)) (show 0 < 14 by decide)
             exact h6.keep (fun q hq1 hq2 => by rw [e37, va_up_ne _ _ (by omega)]; exact ho18 q (by omega)))
      | (have hl : l.length = 14 := by omega
         have q1 : OnlyA M M53 := fun i hi hj => by rw [e53, va_up_ne _ _ hi]; exact ho18 i (by omega)
         refine ⟨rfl, ⟨(o + 1) % 14, Nat.mod_lt _ (by decide), ?_, ?_, ?_, ?_⟩, q1, rfl⟩
         · rw [e53, va_up_self, pk_us]
         · rw [e53, va_up_self, pk_un (by decide), ho18 10 (by omega), h3, List.length_take, List.length_cons]; congr 1; omega
         · rw [List.length_take, List.length_cons]; omega
         · intro i x hx
           have hi14 : i < 14 := by have := (List.getElem?_eq_some_iff.mp hx).1; rw [List.length_take] at this; omega
           rw [List.getElem?_take_of_lt hi14] at hx
           have hlen : (List.take 14 (c :: l)).length = 14 := by rw [List.length_take, List.length_cons]; omega
           rw [hlen]
           match i, hx with
           | 0, hx =>
             simp only [List.getElem?_cons_zero, Option.some.injEq] at hx
             subst hx
             rw [show ((o + 1) % 14 + (14 - 1 - 0)) % 14 = (o + l.length) % 14 by omega]
             exact hS18.keep (fun q hq1 hq2 => by rw [e53, va_up_ne _ _ (by omega)])
           | i + 1, hx =>
             simp only [List.getElem?_cons_succ] at hx
             have h6 := h5 i x hx
             rw [show ((o + 1) % 14 + (14 - 1 - (i + 1))) % 14 = (o + (l.length - 1 - i)) % 14 by omega]
             have hne : (o + (l.length - 1 - i)) % 14 ≠ (o + l.length) % 14 := by omega
             have hlt := Nat.mod_lt (o + (l.length - 1 - i)) (show 0 < 14 by decide)
             exact h6.keep (fun q hq1 hq2 => by rw [e53, va_up_ne _ _ (by omega)]; exact ho18 q (by omega)))
theorem ct_takeBack {g : GT} {M : MM} {L : LL} {l : List SC} {c : SC} (hA : ActsR M (c :: l)) : CTQ g mX0_takeBack 2 [.ref (dq_A g 10), .ref (dq_A g 30)] M L (fun v M' L' => v = none ∧ ActsR M' l ∧ SceneR M' 30 c ∧ (∀ i, i ≠ 10 → (i < 30 ∨ 33 < i) → M' i = M i) ∧ L' = L) := by
  obtain ⟨o, h1, h2, h3, h4, h5⟩ := hA
  rw [List.length_cons] at h3 h4
  have hm : (o + l.length) % 14 < 14 := Nat.mod_lt _ (by decide)
  have hc : SceneR M (38 + 4 * ((o + l.length) % 14)) c := by
    have := h5 0 c rfl
    rwa [List.length_cons, Nat.add_sub_cancel, Nat.sub_zero] at this
  refine ct_of ok_X0_takeBack (lv := [some (.ref (dq_A g 10)), some (.ref (dq_A g 30))]) rfl (Nat.le_of_ble_eq_true rfl) ?_
  refine ro_aload_n dX0_takeBack_0 rfl rfl ?_
  refine gf_X0_size  in_X0_takeBack_X0 lk_X0_takeBack_24 dX0_takeBack_1 ?_
  rw [h3]
  refine ro_if_le 38 dX0_takeBack_4 (by decide) (fun b4 => ?_) (fun b4 => ?_)
  · exact absurd b4 (nI_nle (by omega) (by omega))
  · refine ro_aload_n dX0_takeBack_7 rfl rfl ?_
    refine ro_dup dX0_takeBack_8 rfl ?_
    refine gf_X0_size  in_X0_takeBack_X0 lk_X0_takeBack_24 dX0_takeBack_9 ?_
    rw [h3]
    refine ro_iconst (v := 1) dX0_takeBack_12 (by decide) ?_
    refine ro_isub dX0_takeBack_13 ?_
    rw [nI_pred]
    refine pf_X0_size  in_X0_takeBack_X0 lk_X0_takeBack_24  dX0_takeBack_14 (fun M14 e14 => ?_)
    refine ro_aload_n dX0_takeBack_17 rfl rfl ?_
    refine ro_aload_n dX0_takeBack_18 rfl rfl ?_
    refine gf_X0_ahead  in_X0_takeBack_X0 lk_X0_takeBack_11 dX0_takeBack_19 ?_
    refine ro_aload_n dX0_takeBack_22 rfl rfl ?_
    refine gf_X0_oldest  in_X0_takeBack_X0 lk_X0_takeBack_20 dX0_takeBack_23 ?_
    rw [show M14 10 1 = nI o by rw [e14, va_up_self, pk_un (by decide)]; exact h2]
    refine ro_aload_n dX0_takeBack_26 rfl rfl ?_
    refine gf_X0_size  in_X0_takeBack_X0 lk_X0_takeBack_24 dX0_takeBack_27 ?_
    rw [show M14 10 2 = nI l.length by rw [e14, va_up_self, pk_us]]
    refine ro_iadd dX0_takeBack_30 ?_
    rw [nI_add]
    refine ro_bipush (v := 14) dX0_takeBack_31 (by decide) ?_
    refine ro_irem dX0_takeBack_33 (by decide) ?_
    refine ro_top (pk_rem (d := 14) (by omega) (by decide) (by decide)) ?_
    refine ro_ri sr_11 rfl hm dX0_takeBack_34 ?_
    refine ro_callV1Q ok_X4_take (ct_scTake sc_30 (sc_ah hm) (by omega) (hc.keep (fun q hq1 hq2 => by rw [e14, va_up_ne _ _ (by omega)]))) (ce_X4 sc_30) rfl rfl gX0_takeBack_X4_take (Nat.le_of_ble_eq_true rfl) (Nat.le_of_ble_eq_true rfl) dX0_takeBack_35 (fun v35 M35 L35 q35 => ?_)
    obtain ⟨rfl, hS35, ho35, rfl⟩ := q35
    refine ro_vret rfl dX0_takeBack_38 ?_
    have hk : ∀ i, i ≠ 10 → (i < 30 ∨ 33 < i) → M35 i = M i := fun i hi hj => by rw [ho35 i hj, e14, va_up_ne _ _ hi]
    refine ⟨rfl, ⟨o, h1, ?_, ?_, by omega, fun i x hx => ?_⟩, hS35, hk, rfl⟩
    · rw [ho35 10 (by omega), e14, va_up_self, pk_un (by decide)]; exact h2
    · rw [ho35 10 (by omega), e14, va_up_self, pk_us]
    · have hil : i < l.length := (List.getElem?_eq_some_iff.mp hx).1
      have h6 := h5 (i + 1) x (by rw [List.getElem?_cons_succ]; exact hx)
      rw [List.length_cons, show l.length + 1 - 1 - (i + 1) = l.length - 1 - i by omega] at h6
      have hlt := Nat.mod_lt (o + (l.length - 1 - i)) (show 0 < 14 by decide)
      exact h6.keep (fun q hq1 hq2 => hk q (by omega) (by omega))
abbrev HD : Type := Nat × (Nat → Nat) × (Nat → Nat) × (Nat → Bool)
def hd_n (h : HD) : Nat := h.1
def hd_l (h : HD) : Nat → Nat := h.2.1
def hd_r (h : HD) : Nat → Nat := h.2.2.1
def hd_w (h : HD) : Nat → Bool := h.2.2.2
def HdOK (h : HD) : Prop := hd_n h ≤ 6 ∧ ∀ j, j < hd_n h → hd_l h j ≤ 9 ∧ hd_r h j ≤ 9
def hd_add (h : HD) (l r : Nat) (w : Bool) : HD := (hd_n h + 1, va_up (hd_l h) (hd_n h) l, va_up (hd_r h) (hd_n h) r, va_up (hd_w h) (hd_n h) w)
def HeardR (M : MM) (h : HD) : Prop := M 12 3 = nI (hd_n h) ∧ (∀ j, j < hd_n h → M 13 j = nI (hd_l h j)) ∧ (∀ j, j < hd_n h → M 14 j = nI (hd_r h j)) ∧ ∀ j, j < hd_n h → M 15 j = bI (hd_w h j)
theorem HeardR.keep {M M' : MM} {h : HD} (hh : HeardR M h) (hk : ∀ i, 12 ≤ i → i ≤ 15 → M' i = M i) : HeardR M' h := by
  unfold HeardR at hh ⊢
  rw [hk 12 (by omega) (by omega), hk 13 (by omega) (by omega), hk 14 (by omega) (by omega), hk 15 (by omega) (by omega)]
  exact hh
/-- by this ear and wall what is heard is so -/
def fitB (h : HD) (kd w : Nat) : Nat → Bool
  | 0 => true
  | n + 1 => fitB h kd w n && (decide (((w + hd_r h n : Nat) : Int) < (hd_l h n : Int) + earZ kd) == hd_w h n)
theorem fitB_mono {h : HD} {kd w : Nat} {m : Nat} (hf : fitB h kd w m = false) : ∀ n, m ≤ n → fitB h kd w n = false
  | 0, hn => by have : m = 0 := by omega
                rw [this] at hf; exact hf
  | n + 1, hn => by
    by_cases e : m = n + 1
    · rw [← e]; exact hf
    · rw [fitB, fitB_mono hf n (by omega)]; rfl
theorem ct_hdAdd {g : GT} {M : MM} {L : LL} {h : HD} {l r : Nat} {w : Bool} (hR : HeardR M h) (h6 : hd_n h < 6) : CTQ g mX1_add 0 [.ref (dq_A g 12), .int (nI l), .int (nI r), .int (bI w)] M L (fun v M' L' => v = none ∧ HeardR M' (hd_add h l r w) ∧ OnlyB 12 15 M M' ∧ L' = L) := by
  have hn := hR.1
  refine ct_of ok_X1_add (lv := [some (.ref (dq_A g 12)), some (.int (nI l)), some (.int (nI r)), some (.int (bI w))]) rfl (Nat.le_of_ble_eq_true rfl) ?_
  refine ro_aload_n dX1_add_0 rfl rfl ?_
  refine gf_X1_size  in_X1_add_X1 lk_X1_add_22 dX1_add_1 ?_
  rw [hn]
  refine ro_bipush (v := 6) dX1_add_4 (by decide) ?_
  refine ro_icmp_ge 49 dX1_add_6 (by decide) (fun b6 => ?_) (fun b6 => ?_)
  · exact absurd b6 (nI_ge (b := 6) (by omega) (by decide))
  · refine ro_aload_n dX1_add_9 rfl rfl ?_
    refine gf_X1_loud  in_X1_add_X1 lk_X1_add_9 dX1_add_10 ?_
    refine ro_aload_n dX1_add_13 rfl rfl ?_
    refine gf_X1_size  in_X1_add_X1 lk_X1_add_22 dX1_add_14 ?_
    rw [hn]
    refine ro_iload_n dX1_add_17 rfl rfl ?_
    refine ro_as ar_13 rfl (by omega) dX1_add_18 (fun M18 e18 => ?_)
    refine ro_aload_n dX1_add_19 rfl rfl ?_
    refine gf_X1_rain  in_X1_add_X1 lk_X1_add_15 dX1_add_20 ?_
    refine ro_aload_n dX1_add_23 rfl rfl ?_
    refine gf_X1_size  in_X1_add_X1 lk_X1_add_22 dX1_add_24 ?_
    rw [show M18 12 3 = nI (hd_n h) by simp [e18, va_up, hn]]
    refine ro_iload_n dX1_add_27 rfl rfl ?_
    refine ro_as ar_14 rfl (by omega) dX1_add_28 (fun M28 e28 => ?_)
    refine ro_aload_n dX1_add_29 rfl rfl ?_
    refine gf_X1_was  in_X1_add_X1 lk_X1_add_18 dX1_add_30 ?_
    refine ro_aload_n dX1_add_33 rfl rfl ?_
    refine gf_X1_size  in_X1_add_X1 lk_X1_add_22 dX1_add_34 ?_
    rw [show M28 12 3 = nI (hd_n h) by simp [e28, e18, va_up, hn]]
    refine ro_iload_n dX1_add_37 rfl rfl ?_
    refine ro_bs br_15 rfl (by omega) (bI_vp w) dX1_add_38 (fun M38 e38 => ?_)
    refine ro_aload_n dX1_add_39 rfl rfl ?_
    refine ro_dup dX1_add_40 rfl ?_
    refine gf_X1_size  in_X1_add_X1 lk_X1_add_22 dX1_add_41 ?_
    rw [show M38 12 3 = nI (hd_n h) by simp [e38, e28, e18, va_up, hn]]
    refine ro_iconst (v := 1) dX1_add_44 (by decide) ?_
    refine ro_iadd dX1_add_45 ?_
    rw [nI_1]
    refine pf_X1_size  in_X1_add_X1 lk_X1_add_22  dX1_add_46 (fun M46 e46 => ?_)
    refine ro_vret rfl dX1_add_49 ?_
    refine ⟨rfl, ⟨?_, ?_, ?_, ?_⟩, (((OnlyB.up e18 (by decide) (by decide)).tr (OnlyB.up e28 (by decide) (by decide))).tr (OnlyB.up e38 (by decide) (by decide))).tr (OnlyB.up e46 (by decide) (by decide)), rfl⟩
    · rw [e46, va_up_self, pk_us]; rfl
    · have r1 : M46 13 = upd (M 13) (hd_n h) (nI l) := by simp [e46, e38, e28, e18, va_up]
      rw [r1]; exact row_add hR.2.1
    · have r1 : M46 14 = upd (M 14) (hd_n h) (nI r) := by simp [e46, e38, e28, e18, va_up]
      rw [r1]; exact row_add hR.2.2.1
    · have r1 : M46 15 = upd (M 15) (hd_n h) (bI w) := by simp [e46, e38, e28, e18, va_up]
      rw [r1]
      intro j hj
      have hj2 : j < hd_n h + 1 := hj
      show upd (M 15) (hd_n h) (bI w) j = bI (va_up (hd_w h) (hd_n h) w j)
      unfold upd va_up
      split
      · rfl
      · exact hR.2.2.2 j (by omega)
theorem lp_fits {g : GT} {M : MM} {L : LL} {h : HD} {kd w : Nat} (hR : HeardR M h) (ok : HdOK h) (hk : kd < 3) (hw : w ≤ 9) : ∀ (k i : Nat), i + k = hd_n h → fitB h kd w i = true → ∀ x4 : Option Value, JW g mX1_fits 0 (Rt (some (.int (bI (fitB h kd w (hd_n h))))) M L) M L 2 [some (.ref (dq_A g 12)), some (.int (nI kd)), some (.int (nI w)), some (.int (nI i)), x4] [] := by
  have h6 := ok.1
  have hea := earZ_b kd
  intro k
  induction k with
  | zero =>
    intro i hi hf x4
    refine ro_iload_n dX1_fits_2 rfl rfl ?_
    refine ro_aload_n dX1_fits_3 rfl rfl ?_
    refine gf_X1_size  in_X1_fits_X1 lk_X1_fits_22 dX1_fits_4 ?_
    rw [hR.1]
    refine ro_icmp_ge 59 dX1_fits_7 (by decide) (fun b7 => ?_) (fun b7 => ?_)
    · refine ro_iconst (v := 1) dX1_fits_59 (by decide) ?_
      refine ro_zret rfl rfl dX1_fits_60 ?_
      exact ⟨by rw [show hd_n h = i by omega, hf]; rfl, rfl, rfl⟩
    · exact absurd (nI_le (by omega) (by omega)) b7
  | succ k ih =>
    intro i hi hf x4
    have hv := ok.2 i (by omega)
    refine ro_iload_n dX1_fits_2 rfl rfl ?_
    refine ro_aload_n dX1_fits_3 rfl rfl ?_
    refine gf_X1_size  in_X1_fits_X1 lk_X1_fits_22 dX1_fits_4 ?_
    rw [hR.1]
    refine ro_icmp_ge 59 dX1_fits_7 (by decide) (fun b7 => ?_) (fun b7 => ?_)
    · exact absurd b7 (nI_ge (by omega) (by omega))
    · refine ro_aload_n dX1_fits_10 rfl rfl ?_
      refine gf_X1_loud  in_X1_fits_X1 lk_X1_fits_9 dX1_fits_11 ?_
      refine ro_iload_n dX1_fits_14 rfl rfl ?_
      refine ro_ai ar_13 rfl (by omega) dX1_fits_15 ?_
      rw [hR.2.1 i (by omega)]
      refine ro_ear2 rfl dX1_fits_16 ?_
      refine ro_iload_n dX1_fits_19 rfl rfl ?_
      refine ro_ei rfl (by omega) dX1_fits_20 ?_
      rw [ear_oI]
      refine ro_iadd dX1_fits_21 ?_
      refine ro_top (show _ = oI ((hd_l h i : Int) + earZ kd) from by rw [nI_oI, oI_add]) ?_
      refine ro_iload_n dX1_fits_22 rfl rfl ?_
      refine ro_aload_n dX1_fits_23 rfl rfl ?_
      refine gf_X1_rain  in_X1_fits_X1 lk_X1_fits_15 dX1_fits_24 ?_
      refine ro_iload_n dX1_fits_27 rfl rfl ?_
      refine ro_ai ar_14 rfl (by omega) dX1_fits_28 ?_
      rw [hR.2.2.1 i (by omega)]
      refine ro_iadd dX1_fits_29 ?_
      refine ro_top (show _ = oI ((w + hd_r h i : Nat) : Int) from by rw [nI_add, nI_oI]) ?_
      refine ro_icmp_le 37 dX1_fits_30 (by decide) (fun b30 => ?_) (fun b30 => ?_)
      · rw [oI_le (by omega) (by omega) (by omega) (by omega)] at b30
        refine ro_iconst (v := 0) dX1_fits_37 (by decide) ?_
        refine ro_istore4 dX1_fits_38 (Nat.le_of_ble_eq_true rfl) rfl ?_
        refine ro_iload dX1_fits_40 rfl ?_
        refine ro_aload_n dX1_fits_42 rfl rfl ?_
        refine gf_X1_was  in_X1_fits_X1 lk_X1_fits_18 dX1_fits_43 ?_
        refine ro_iload_n dX1_fits_46 rfl rfl ?_
        refine ro_bi br_15 rfl (by omega) dX1_fits_47 ?_
        rw [hR.2.2.2 i (by omega)]
        refine ro_icmp_eq 53 dX1_fits_48 (by decide) (fun b48 => ?_) (fun b48 => ?_)
        · have hq : fitB h kd w (i + 1) = true := by rw [fitB, hf, Bool.true_and]; first | (rw [decide_eq_true (show ((w + hd_r h i : Nat) : Int) < (hd_l h i : Int) + earZ kd by omega), bI_eq1.mp b48.symm]; rfl) | (rw [decide_eq_false (show ¬ ((w + hd_r h i : Nat) : Int) < (hd_l h i : Int) + earZ kd by omega), bI_eq0.mp b48.symm]; rfl)
          refine ro_iincP3 dX1_fits_53 (Nat.le_of_ble_eq_true rfl) rfl ?_
          refine ro_goto 2 dX1_fits_56 (by decide) ?_
          rw [nI_1]
          exact ih (i + 1) (by omega) hq _
        · have hq : fitB h kd w (i + 1) = false := by rw [fitB, hf, Bool.true_and]; first | (rw [decide_eq_true (show ((w + hd_r h i : Nat) : Int) < (hd_l h i : Int) + earZ kd by omega), Bool.eq_false_iff.mpr (fun z => b48 (bI_eq1.mpr z).symm)]; rfl) | (rw [decide_eq_false (show ¬ ((w + hd_r h i : Nat) : Int) < (hd_l h i : Int) + earZ kd by omega), bI_ne0.mp (fun z => b48 z.symm)]; rfl)
          refine ro_iconst (v := 0) dX1_fits_51 (by decide) ?_
          refine ro_zret rfl rfl dX1_fits_52 ?_
          exact ⟨by rw [fitB_mono hq _ (by omega)]; rfl, rfl, rfl⟩
      · rw [oI_le (by omega) (by omega) (by omega) (by omega)] at b30
        refine ro_iconst (v := 1) dX1_fits_33 (by decide) ?_
        refine ro_goto 38 dX1_fits_34 (by decide) ?_
        refine ro_istore4 dX1_fits_38 (Nat.le_of_ble_eq_true rfl) rfl ?_
        refine ro_iload dX1_fits_40 rfl ?_
        refine ro_aload_n dX1_fits_42 rfl rfl ?_
        refine gf_X1_was  in_X1_fits_X1 lk_X1_fits_18 dX1_fits_43 ?_
        refine ro_iload_n dX1_fits_46 rfl rfl ?_
        refine ro_bi br_15 rfl (by omega) dX1_fits_47 ?_
        rw [hR.2.2.2 i (by omega)]
        refine ro_icmp_eq 53 dX1_fits_48 (by decide) (fun b48 => ?_) (fun b48 => ?_)
        · have hq : fitB h kd w (i + 1) = true := by rw [fitB, hf, Bool.true_and]; first | (rw [decide_eq_true (show ((w + hd_r h i : Nat) : Int) < (hd_l h i : Int) + earZ kd by omega), bI_eq1.mp b48.symm]; rfl) | (rw [decide_eq_false (show ¬ ((w + hd_r h i : Nat) : Int) < (hd_l h i : Int) + earZ kd by omega), bI_eq0.mp b48.symm]; rfl)
          refine ro_iincP3 dX1_fits_53 (Nat.le_of_ble_eq_true rfl) rfl ?_
          refine ro_goto 2 dX1_fits_56 (by decide) ?_
          rw [nI_1]
          exact ih (i + 1) (by omega) hq _
        · have hq : fitB h kd w (i + 1) = false := by rw [fitB, hf, Bool.true_and]; first | (rw [decide_eq_true (show ((w + hd_r h i : Nat) : Int) < (hd_l h i : Int) + earZ kd by omega), Bool.eq_false_iff.mpr (fun z => b48 (bI_eq1.mpr z).symm)]; rfl) | (rw [decide_eq_false (show ¬ ((w + hd_r h i : Nat) : Int) < (hd_l h i : Int) + earZ kd by omega), bI_ne0.mp (fun z => b48 z.symm)]; rfl)
          refine ro_iconst (v := 0) dX1_fits_51 (by decide) ?_
          refine ro_zret rfl rfl dX1_fits_52 ?_
          exact ⟨by rw [fitB_mono hq _ (by omega)]; rfl, rfl, rfl⟩
theorem ct_fits {g : GT} {M : MM} {L : LL} {h : HD} {kd w : Nat} (hR : HeardR M h) (ok : HdOK h) (hk : kd < 3) (hw : w ≤ 9) : CT g mX1_fits 0 [.ref (dq_A g 12), .int (nI kd), .int (nI w)] M L (some (.int (bI (fitB h kd w (hd_n h))))) M L := by
  refine ct_of ok_X1_fits (lv := [some (.ref (dq_A g 12)), some (.int (nI kd)), some (.int (nI w)), none, none]) rfl (Nat.le_of_ble_eq_true rfl) ?_
  refine ro_iconst (v := 0) dX1_fits_0 (by decide) ?_
  refine ro_istore_n3 dX1_fits_1 (Nat.le_of_ble_eq_true rfl) rfl ?_
  exact lp_fits hR ok hk hw (hd_n h) 0 (by omega) rfl _
