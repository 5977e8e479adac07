/-! reading -/
def FG (t : Nat → Nat) (n lim i : Nat) (flt r : Int32) (j : Nat) (f2 : Int32) : Prop := ((flt = -9 ∧ i < n ∧ 48 ≤ t i ∧ t i - 48 < lim) ∧ r = nI (t i - 48) ∧ j = i + 1 ∧ f2 = -9) ∨ (¬ (flt = -9 ∧ i < n ∧ 48 ≤ t i ∧ t i - 48 < lim) ∧ r = 0 ∧ j = i ∧ f2 = if flt = -9 then nI i else flt)
theorem upd_id {f : Nat → Int32} {k : Nat} {x : Int32} (h : f k = x) : upd f k x = f := funext fun j => by
  by_cases e : j = k
  · subst e; rw [pk_us, h]
  · rw [pk_un e]
theorem fg_in {x lim : Nat} (hx : x ≤ 255) (h0 : 0 < lim) (h10 : lim ≤ 10) : inB (oI ((x : Int) - 48)).toInt64 0 (nI (lim - 1)).toInt64 = decide (48 ≤ x ∧ x - 48 < lim) := by
  rw [in_ab]
  apply decide_eq_decide.mpr
  rw [oI_toInt (by omega) (by omega), i2l_T, nI_toInt (by omega), show (0 : Int64).toInt = 0 from rfl]
  omega
theorem cr_fig {g : GT} {M : MM} {L : LL} {t : Nat → Nat} {n i lim : Nat} {flt : Int32} (hf : M 102 17 = flt) (ha : M 102 16 = nI i) (hn : M 102 15 = nI n) (ht : ∀ j, j < n → M 111 j = nI (t j)) (h255 : ∀ j, j < n → t j ≤ 255) (h64 : n ≤ 64) (hi : i ≤ 100) (h0 : 0 < lim) (h10 : lim ≤ 10) : CTQ g mX6_figureUpTo 1 [.ref (dq_A g 102), .int (nI (lim - 1))] M L (fun v M' L' => ∃ (r : Int32) (j : Nat) (f2 : Int32), v = some (.int r) ∧ M' = va_up M 102 (upd (upd (M 102) 16 (nI j)) 17 f2) ∧ FG t n lim i flt r j f2 ∧ L' = L) := by
  refine ct_of ok_X6_figureUpTo (lv := [some (.ref (dq_A g 102)), some (.int (nI (lim - 1))), none]) rfl (Nat.le_of_ble_eq_true rfl) ?_
  refine ro_aload_n dX6_figureUpTo_0 rfl rfl ?_
  refine gf_X6_faultAt  in_X6_figureUpTo_X6 lk_X6_figureUpTo_66 dX6_figureUpTo_1 ?_
  rw [hf]
  refine ro_bipush (v := -9) dX6_figureUpTo_4 (by decide) ?_
  refine ro_icmp_ne 46 dX6_figureUpTo_6 (by decide) (fun b6 => ?_) (fun b6 => ?_)
  · refine ro_iconst (v := 0) dX6_figureUpTo_46 (by decide) ?_
    refine ro_istore_n2 dX6_figureUpTo_47 (Nat.le_of_ble_eq_true rfl) rfl ?_
    refine ro_iload_n dX6_figureUpTo_48 rfl rfl ?_
    refine ro_if_ne 78 dX6_figureUpTo_49 (by decide) (fun b49 => ?_) (fun b49 => ?_)
    · exact absurd b49 (by decide)
    · refine ro_aload_n dX6_figureUpTo_52 rfl rfl ?_
      refine ro_aload_n dX6_figureUpTo_53 rfl rfl ?_
      refine gf_X6_faultAt  in_X6_figureUpTo_X6 lk_X6_figureUpTo_66 dX6_figureUpTo_54 ?_
      rw [hf]
      refine ro_bipush (v := -9) dX6_figureUpTo_57 (by decide) ?_
      refine ro_icmp_ne 69 dX6_figureUpTo_59 (by decide) (fun b59 => ?_) (fun b59 => ?_)
      · refine ro_aload_n dX6_figureUpTo_69 rfl rfl ?_
        refine gf_X6_faultAt  in_X6_figureUpTo_X6 lk_X6_figureUpTo_66 dX6_figureUpTo_70 ?_
        rw [hf]
        refine pf_X6_faultAt  in_X6_figureUpTo_X6 lk_X6_figureUpTo_66  dX6_figureUpTo_73 (fun M73 e73 => ?_)
        refine ro_iconst (v := 0) dX6_figureUpTo_76 (by decide) ?_
        refine ro_iret rfl dX6_figureUpTo_77 ?_
        first
          | (exact absurd b6 b59)
          | (exact absurd b59 b6)
          | (refine ⟨0, i, _, rfl, ?_, Or.inr ⟨by first | exact (fun z => b6 z.1) | exact (fun z => absurd z.2.1 (by omega)) | exact (fun z => b39 z.2.2), rfl, rfl, rfl⟩, rfl⟩
             rw [e73, upd_id ha]
             first
               | rw [if_pos b59]
               | rw [if_neg b59])
      · refine ro_aload_n dX6_figureUpTo_62 rfl rfl ?_
        refine gf_X6_at  in_X6_figureUpTo_X6 lk_X6_figureUpTo_69 dX6_figureUpTo_63 ?_
        rw [ha]
        refine ro_goto 73 dX6_figureUpTo_66 (by decide) ?_
        refine pf_X6_faultAt  in_X6_figureUpTo_X6 lk_X6_figureUpTo_66  dX6_figureUpTo_73 (fun M73 e73 => ?_)
        refine ro_iconst (v := 0) dX6_figureUpTo_76 (by decide) ?_
        refine ro_iret rfl dX6_figureUpTo_77 ?_
        first
          | (exact absurd b6 b59)
          | (exact absurd b59 b6)
          | (refine ⟨0, i, _, rfl, ?_, Or.inr ⟨by first | exact (fun z => b6 z.1) | exact (fun z => absurd z.2.1 (by omega)) | exact (fun z => b39 z.2.2), rfl, rfl, rfl⟩, rfl⟩
             rw [e73, upd_id ha]
             first
               | rw [if_pos b59]
               | rw [if_neg b59])
  · refine ro_aload_n dX6_figureUpTo_9 rfl rfl ?_
    refine gf_X6_at  in_X6_figureUpTo_X6 lk_X6_figureUpTo_69 dX6_figureUpTo_10 ?_
    rw [ha]
    refine ro_aload_n dX6_figureUpTo_13 rfl rfl ?_
    refine gf_X6_length  in_X6_figureUpTo_X6 lk_X6_figureUpTo_62 dX6_figureUpTo_14 ?_
    rw [hn]
    refine ro_icmp_ge 46 dX6_figureUpTo_17 (by decide) (fun b17 => ?_) (fun b17 => ?_)
    · rw [nI_leI (by omega) (by omega)] at b17
      refine ro_iconst (v := 0) dX6_figureUpTo_46 (by decide) ?_
      refine ro_istore_n2 dX6_figureUpTo_47 (Nat.le_of_ble_eq_true rfl) rfl ?_
      refine ro_iload_n dX6_figureUpTo_48 rfl rfl ?_
      refine ro_if_ne 78 dX6_figureUpTo_49 (by decide) (fun b49 => ?_) (fun b49 => ?_)
      · exact absurd b49 (by decide)
      · refine ro_aload_n dX6_figureUpTo_52 rfl rfl ?_
        refine ro_aload_n dX6_figureUpTo_53 rfl rfl ?_
        refine gf_X6_faultAt  in_X6_figureUpTo_X6 lk_X6_figureUpTo_66 dX6_figureUpTo_54 ?_
        rw [hf]
        refine ro_bipush (v := -9) dX6_figureUpTo_57 (by decide) ?_
        refine ro_icmp_ne 69 dX6_figureUpTo_59 (by decide) (fun b59 => ?_) (fun b59 => ?_)
        · refine ro_aload_n dX6_figureUpTo_69 rfl rfl ?_
          refine gf_X6_faultAt  in_X6_figureUpTo_X6 lk_X6_figureUpTo_66 dX6_figureUpTo_70 ?_
          rw [hf]
          refine pf_X6_faultAt  in_X6_figureUpTo_X6 lk_X6_figureUpTo_66  dX6_figureUpTo_73 (fun M73 e73 => ?_)
          refine ro_iconst (v := 0) dX6_figureUpTo_76 (by decide) ?_
          refine ro_iret rfl dX6_figureUpTo_77 ?_
          first
            | (exact absurd b6 b59)
            | (exact absurd b59 b6)
            | (refine ⟨0, i, _, rfl, ?_, Or.inr ⟨by first | exact (fun z => b6 z.1) | exact (fun z => absurd z.2.1 (by omega)) | exact (fun z => b39 z.2.2), rfl, rfl, rfl⟩, rfl⟩
               rw [e73, upd_id ha]
               first
                 | rw [if_pos b59]
                 | rw [if_neg b59])
        · refine ro_aload_n dX6_figureUpTo_62 rfl rfl ?_
          refine gf_X6_at  in_X6_figureUpTo_X6 lk_X6_figureUpTo_69 dX6_figureUpTo_63 ?_
          rw [ha]
          refine ro_goto 73 dX6_figureUpTo_66 (by decide) ?_
          refine pf_X6_faultAt  in_X6_figureUpTo_X6 lk_X6_figureUpTo_66  dX6_figureUpTo_73 (fun M73 e73 => ?_)
          refine ro_iconst (v := 0) dX6_figureUpTo_76 (by decide) ?_
          refine ro_iret rfl dX6_figureUpTo_77 ?_
          first
            | (exact absurd b6 b59)
            | (exact absurd b59 b6)
            | (refine ⟨0, i, _, rfl, ?_, Or.inr ⟨by first | exact (fun z => b6 z.1) | exact (fun z => absurd z.2.1 (by omega)) | exact (fun z => b39 z.2.2), rfl, rfl, rfl⟩, rfl⟩
               rw [e73, upd_id ha]
               first
                 | rw [if_pos b59]
                 | rw [if_neg b59])
    · rw [nI_leI (by omega) (by omega)] at b17
      refine ro_aload_n dX6_figureUpTo_20 rfl rfl ?_
      refine gf_X6_text  in_X6_figureUpTo_X6 lk_X6_figureUpTo_34 dX6_figureUpTo_21 ?_
      refine ro_aload_n dX6_figureUpTo_24 rfl rfl ?_
      refine gf_X6_at  in_X6_figureUpTo_X6 lk_X6_figureUpTo_69 dX6_figureUpTo_25 ?_
      rw [ha]
      refine ro_ai ar_111 rfl (by omega) dX6_figureUpTo_28 ?_
      rw [ht i (by omega)]
      refine ro_bipush (v := 48) dX6_figureUpTo_29 (by decide) ?_
      refine ro_isub dX6_figureUpTo_31 ?_
      refine ro_top (show _ = oI ((t i : Int) - 48) from by rw [show (48 : Int32) = oI 48 from rfl, nI_oI, oI_sub]) ?_
      refine ro_i2l dX6_figureUpTo_32 ?_
      refine ro_lconst (v := 0) dX6_figureUpTo_33 (by decide) ?_
      refine ro_iload_n dX6_figureUpTo_34 rfl rfl ?_
      refine ro_i2l dX6_figureUpTo_35 ?_
      refine ro_callS3 ok_X6_in (cr_in _ _ _) gX6_figureUpTo_X6_in (Nat.le_of_ble_eq_true rfl) (Nat.le_of_ble_eq_true rfl) dX6_figureUpTo_36 ?_
      rw [fg_in (h255 i (by omega)) h0 h10]
      refine ro_if_eq 46 dX6_figureUpTo_39 (by decide) (fun b39 => ?_) (fun b39 => ?_)
      · rw [bI_eq0, decide_eq_false_iff_not] at b39
        refine ro_iconst (v := 0) dX6_figureUpTo_46 (by decide) ?_
        refine ro_istore_n2 dX6_figureUpTo_47 (Nat.le_of_ble_eq_true rfl) rfl ?_
        refine ro_iload_n dX6_figureUpTo_48 rfl rfl ?_
        refine ro_if_ne 78 dX6_figureUpTo_49 (by decide) (fun b49 => ?_) (fun b49 => ?_)
        · exact absurd b49 (by decide)
        · refine ro_aload_n dX6_figureUpTo_52 rfl rfl ?_
          refine ro_aload_n dX6_figureUpTo_53 rfl rfl ?_
          refine gf_X6_faultAt  in_X6_figureUpTo_X6 lk_X6_figureUpTo_66 dX6_figureUpTo_54 ?_
          rw [hf]
          refine ro_bipush (v := -9) dX6_figureUpTo_57 (by decide) ?_
          refine ro_icmp_ne 69 dX6_figureUpTo_59 (by decide) (fun b59 => ?_) (fun b59 => ?_)
          · refine ro_aload_n dX6_figureUpTo_69 rfl rfl ?_
            refine gf_X6_faultAt  in_X6_figureUpTo_X6 lk_X6_figureUpTo_66 dX6_figureUpTo_70 ?_
            rw [hf]
            refine pf_X6_faultAt  in_X6_figureUpTo_X6 lk_X6_figureUpTo_66  dX6_figureUpTo_73 (fun M73 e73 => ?_)
            refine ro_iconst (v := 0) dX6_figureUpTo_76 (by decide) ?_
            refine ro_iret rfl dX6_figureUpTo_77 ?_
            first
              | (exact absurd b6 b59)
              | (exact absurd b59 b6)
              | (refine ⟨0, i, _, rfl, ?_, Or.inr ⟨by first | exact (fun z => b6 z.1) | exact (fun z => absurd z.2.1 (by omega)) | exact (fun z => b39 z.2.2), rfl, rfl, rfl⟩, rfl⟩
                 rw [e73, upd_id ha]
                 first
                   | rw [if_pos b59]
                   | rw [if_neg b59])
          · refine ro_aload_n dX6_figureUpTo_62 rfl rfl ?_
            refine gf_X6_at  in_X6_figureUpTo_X6 lk_X6_figureUpTo_69 dX6_figureUpTo_63 ?_
            rw [ha]
            refine ro_goto 73 dX6_figureUpTo_66 (by decide) ?_
            refine pf_X6_faultAt  in_X6_figureUpTo_X6 lk_X6_figureUpTo_66  dX6_figureUpTo_73 (fun M73 e73 => ?_)
            refine ro_iconst (v := 0) dX6_figureUpTo_76 (by decide) ?_
            refine ro_iret rfl dX6_figureUpTo_77 ?_
            first
              | (exact absurd b6 b59)
              | (exact absurd b59 b6)
              | (refine ⟨0, i, _, rfl, ?_, Or.inr ⟨by first | exact (fun z => b6 z.1) | exact (fun z => absurd z.2.1 (by omega)) | exact (fun z => b39 z.2.2), rfl, rfl, rfl⟩, rfl⟩
                 rw [e73, upd_id ha]
                 first
                   | rw [if_pos b59]
                   | rw [if_neg b59])
      · rw [bI_ne0, decide_eq_true_eq] at b39
        refine ro_iconst (v := 1) dX6_figureUpTo_42 (by decide) ?_
        refine ro_goto 47 dX6_figureUpTo_43 (by decide) ?_
        refine ro_istore_n2 dX6_figureUpTo_47 (Nat.le_of_ble_eq_true rfl) rfl ?_
        refine ro_iload_n dX6_figureUpTo_48 rfl rfl ?_
        refine ro_if_ne 78 dX6_figureUpTo_49 (by decide) (fun b49 => ?_) (fun b49 => ?_)
        · refine ro_aload_n dX6_figureUpTo_78 rfl rfl ?_
          refine ro_dup dX6_figureUpTo_79 rfl ?_
          refine gf_X6_at  in_X6_figureUpTo_X6 lk_X6_figureUpTo_69 dX6_figureUpTo_80 ?_
          rw [ha]
          refine ro_iconst (v := 1) dX6_figureUpTo_83 (by decide) ?_
          refine ro_iadd dX6_figureUpTo_84 ?_
          rw [nI_1]
          refine pf_X6_at  in_X6_figureUpTo_X6 lk_X6_figureUpTo_69  dX6_figureUpTo_85 (fun M85 e85 => ?_)
          refine ro_aload_n dX6_figureUpTo_88 rfl rfl ?_
          refine gf_X6_text  in_X6_figureUpTo_X6 lk_X6_figureUpTo_34 dX6_figureUpTo_89 ?_
          refine ro_aload_n dX6_figureUpTo_92 rfl rfl ?_
          refine gf_X6_at  in_X6_figureUpTo_X6 lk_X6_figureUpTo_69 dX6_figureUpTo_93 ?_
          rw [show M85 102 16 = nI (i + 1) from by rw [e85, va_up_self, pk_us]]
          refine ro_iconst (v := 1) dX6_figureUpTo_96 (by decide) ?_
          refine ro_isub dX6_figureUpTo_97 ?_
          refine ro_top (show _ = nI i from nI_pred i) ?_
          refine ro_ai ar_111 rfl (by omega) dX6_figureUpTo_98 ?_
          rw [show M85 111 i = nI (t i) from by rw [e85, va_up_ne _ _ (by decide)]; exact ht i (by omega)]
          refine ro_bipush (v := 48) dX6_figureUpTo_99 (by decide) ?_
          refine ro_isub dX6_figureUpTo_101 ?_
          refine ro_top (show _ = nI (t i - 48) from pk_sub (b := 48) (by omega)) ?_
          refine ro_iret rfl dX6_figureUpTo_102 ?_
          refine ⟨_, i + 1, -9, rfl, ?_, Or.inl ⟨⟨b6, by omega, b39.1, b39.2⟩, rfl, rfl, rfl⟩, rfl⟩
          rw [e85, upd_id (f := upd (M 102) 16 (nI (i + 1))) (k := 17) (by rw [pk_un (by decide), hf, b6])]
        · exact absurd b49 (by decide)
def RDs (M : MM) (l : LN) : Prop := M 102 11 = nI (ln_n l) ∧ M 102 12 = nI (ln_s l) ∧ M 102 13 = nI (ln_r l) ∧ (∀ j, j < ln_n l → M 108 (2 * j) = nI (ln_kind l j) ∧ M 108 (2 * j + 1) = nI (ln_wall l j)) ∧ (∀ j, j < ln_s l → M 109 (3 * j) = nI (ln_place l j) ∧ M 109 (3 * j + 1) = nI (ln_thing l j) ∧ M 109 (3 * j + 2) = nI (ln_loud l j)) ∧ ∀ j, j < ln_r l → M 110 j = nI (ln_rain l j)
/-- R is what the scan gives from i on, or a fault is told -/
def SCN (t : Nat → Nat) (n : Nat) (R : Int32 × PS) (i : Nat) (flt : Int32) (p : PS) : Prop := (flt = -9 ∧ R = pscan t (n - i) i p ∧ i ≤ n) ∨ ∃ z, z ≤ 64 ∧ flt = nI z ∧ R.1 = nI z
theorem ps_no {t : Nat → Nat} {n i : Nat} {p : PS} (hi : i < n) (h : pstep p (t i) = none) : pscan t (n - i) i p = (nI i, p) := by
  rw [show n - i = n - (i + 1) + 1 by omega, pscan, h]
theorem ps_go {t : Nat → Nat} {n i : Nat} {p q : PS} (hi : i < n) (h : pstep p (t i) = some q) : pscan t (n - i) i p = pscan t (n - (i + 1)) (i + 1) q := by
  rw [show n - i = n - (i + 1) + 1 by omega, pscan, h]
theorem ps_end {t : Nat → Nat} {n : Nat} {p : PS} : pscan t (n - n) n p = (if ps_b p = true ∧ ps_p p = 0 then -9 else nI n, p) := by
  rw [Nat.sub_self, pscan]
theorem fig_step {t : Nat → Nat} {n i lim j : Nat} {R : Int32 × PS} {flt r f2 : Int32} {p : PS} (h64 : n ≤ 64) (hb : ps_b p = true) (hp : ps_p p ≠ 0) (hk : ps_k p < 3) (hl : lim = ps_lim p) (hS : SCN t n R i flt p) (hF : FG t n lim i flt r j f2) : SCN t n R j f2 (ps_close (true, ps_p p, ps_k p + 1, va_up (ps_f p) (ps_k p) (t i - 48), ps_l p)) ∧ (f2 = -9 → (r = nI (t i - 48) ∧ t i - 48 < lim ∧ flt = -9 ∧ j = i + 1)) := by
  have h9 : ∀ z : Nat, z ≤ 64 → ¬ nI z = -9 := fun z hz => nI_ne9 (by omega)
  rcases hF with ⟨⟨rfl, h1, h2, h3⟩, rfl, rfl, rfl⟩ | ⟨hno, rfl, rfl, rfl⟩
  · rcases hS with ⟨_, hR, hi⟩ | ⟨z, hz, e, _⟩
    · refine ⟨Or.inl ⟨rfl, ?_, by omega⟩, fun _ => ⟨rfl, h3, rfl, rfl⟩⟩
      rw [hR]
      refine ps_go h1 ?_
      rw [pstep_f hb hp, if_pos ⟨h2, by rw [← hl]; exact h3, hk⟩]
    · exact absurd e.symm (h9 z hz)
  · rcases hS with ⟨rfl, hR, hi⟩ | ⟨z, hz, rfl, hz2⟩
    · rw [if_pos rfl]
      refine ⟨Or.inr ⟨j, by omega, rfl, ?_⟩, fun z => absurd z (h9 j (by omega))⟩
      rw [hR]
      by_cases hin : j < n
      · rw [ps_no hin ?_]
        rw [pstep_f hb hp, if_neg (fun z => hno ⟨rfl, hin, z.1, by rw [hl]; exact z.2.1⟩)]
      · have : j = n := by omega
        subst this
        rw [ps_end, if_neg (fun z => hp z.2)]
    · rw [if_neg (h9 z hz)]
      exact ⟨Or.inr ⟨z, hz, rfl, hz2⟩, fun y => absurd y (h9 z hz)⟩
theorem fig_s {t : Nat → Nat} {n i lim j pt k : Nat} {f : Nat → Nat} {l : LN} {R : Int32 × PS} {flt r f2 : Int32} {q : PS} (h64 : n ≤ 64) (hp : pt ≠ 0) (hk : k < 3) (hl : lim = ps_lim (true, pt, k, f, l)) (hS : SCN t n R i flt (true, pt, k, f, l)) (hF : FG t n lim i flt r j f2) (hq : ps_close (true, pt, k + 1, va_up f k (t i - 48), l) = q) : SCN t n R j f2 q ∧ (f2 = -9 → (r = nI (t i - 48) ∧ t i - 48 < lim ∧ flt = -9 ∧ j = i + 1)) := hq ▸ fig_step (p := (true, pt, k, f, l)) h64 rfl hp hk hl hS hF
theorem RDs.keep {M M' : MM} {l : LN} (h : RDs M l) (h1 : M' 102 11 = M 102 11) (h2 : M' 102 12 = M 102 12) (h3 : M' 102 13 = M 102 13) (hk : ∀ i, 108 ≤ i → i ≤ 110 → M' i = M i) : RDs M' l := by
  unfold RDs at h ⊢
  rw [h1, h2, h3, hk 108 (by omega) (by omega), hk 109 (by omega) (by omega), hk 110 (by omega) (by omega)]
  exact h
theorem cr_part {g : GT} {M : MM} {L : LL} {t : Nat → Nat} {n i : Nat} {p : PS} {R : Int32 × PS} (hf : M 102 17 = -9) (ha : M 102 16 = nI i) (hn : M 102 15 = nI n) (ht : ∀ j, j < n → M 111 j = nI (t j)) (h255 : ∀ j, j < n → t j ≤ 255) (h64 : n ≤ 64) (hi : i < n) (hb : ps_b p = true) (hp : ps_p p = 0) (okp : PsOK p) (hD : RDs M (ps_l p)) (hR : R = pscan t (n - i) i p) : CTQ g mX6_readPart 2 [.ref (dq_A g 102), .int (nI (t i))] M L (fun v M' L' => v = none ∧ RScr M M' ∧ L' = L ∧ ∃ (j : Nat) (f2 : Int32) (p' : PS), M' 102 16 = nI j ∧ M' 102 17 = f2 ∧ SCN t n R j f2 p' ∧ (f2 = -9 → (i < j ∧ ps_b p' = true ∧ ps_p p' = 0 ∧ PsOK p' ∧ RDs M' (ps_l p')))) := by
  have hti := h255 i hi
  have hl1 := okp.1.1
  have hl2 := okp.1.2.1
  have hl3 := okp.1.2.2.1
  refine ct_of ok_X6_readPart (lv := [some (.ref (dq_A g 102)), some (.int (nI (t i)))]) rfl (Nat.le_of_ble_eq_true rfl) ?_
  refine ro_iload_n dX6_readPart_0 rfl rfl ?_
  refine ro_bipush (v := 72) dX6_readPart_1 (by decide) ?_
  refine ro_icmp_ne 72 dX6_readPart_3 (by decide) (fun b3 => ?_) (fun b3 => ?_)
  · replace b3 : ¬ t i = 72 := fun z => b3 (by rw [z]; rfl)
    refine ro_iload_n dX6_readPart_72 rfl rfl ?_
    refine ro_bipush (v := 83) dX6_readPart_73 (by decide) ?_
    refine ro_icmp_ne 175 dX6_readPart_75 (by decide) (fun b75 => ?_) (fun b75 => ?_)
    · replace b75 : ¬ t i = 83 := fun z => b75 (by rw [z]; rfl)
      refine ro_iload_n dX6_readPart_175 rfl rfl ?_
      refine ro_bipush (v := 82) dX6_readPart_176 (by decide) ?_
      refine ro_icmp_ne 227 dX6_readPart_178 (by decide) (fun b178 => ?_) (fun b178 => ?_)
      · replace b178 : ¬ t i = 82 := fun z => b178 (by rw [z]; rfl)
        refine ro_aload_n dX6_readPart_227 rfl rfl ?_
        refine ro_aload_n dX6_readPart_228 rfl rfl ?_
        refine gf_X6_at  in_X6_readPart_X6 lk_X6_readPart_69 dX6_readPart_229 ?_
        rw [ha]
        refine pf_X6_faultAt  in_X6_readPart_X6 lk_X6_readPart_66  dX6_readPart_232 (fun M232 e232 => ?_)
        refine ro_vret rfl dX6_readPart_235 ?_
        have hno : ¬ ps_opens (ps_l p) (t i) := by
          unfold ps_opens
          omega
        refine ⟨rfl, ⟨fun q a1 a2 a3 a4 a5 => by rw [e232, va_up_ne _ _ a1], fun q a1 a2 a3 a4 a5 => by rw [e232, va_up_self, pk_un a5], fun k hk => by rw [e232, va_up_ne _ _ (by decide)]⟩, rfl, i, nI i, p, by rw [e232, va_up_self, pk_un (by decide)]; exact ha, by rw [e232, va_up_self, pk_us], Or.inr ⟨i, by omega, rfl, by rw [hR, ps_no hi ((pstep_o hb hp).2 hno)]⟩, fun z => absurd z (nI_ne9 (by omega))⟩
      · replace b178 : t i = 82 := (nI_eq (b := 82) (by omega) (by decide)).mp b178
        refine ro_aload_n dX6_readPart_181 rfl rfl ?_
        refine gf_X6_readRains  in_X6_readPart_X6 lk_X6_readPart_78 dX6_readPart_182 ?_
        rw [hD.2.2.1]
        refine ro_iconst (v := 4) dX6_readPart_185 (by decide) ?_
        refine ro_icmp_ge 227 dX6_readPart_186 (by decide) (fun b186 => ?_) (fun b186 => ?_)
        · rw [show (4 : Int32) = nI 4 from rfl, nI_leI (by omega) (by omega)] at b186
          refine ro_aload_n dX6_readPart_227 rfl rfl ?_
          refine ro_aload_n dX6_readPart_228 rfl rfl ?_
          refine gf_X6_at  in_X6_readPart_X6 lk_X6_readPart_69 dX6_readPart_229 ?_
          rw [ha]
          refine pf_X6_faultAt  in_X6_readPart_X6 lk_X6_readPart_66  dX6_readPart_232 (fun M232 e232 => ?_)
          refine ro_vret rfl dX6_readPart_235 ?_
          have hno : ¬ ps_opens (ps_l p) (t i) := by
            unfold ps_opens
            omega
          refine ⟨rfl, ⟨fun q a1 a2 a3 a4 a5 => by rw [e232, va_up_ne _ _ a1], fun q a1 a2 a3 a4 a5 => by rw [e232, va_up_self, pk_un a5], fun k hk => by rw [e232, va_up_ne _ _ (by decide)]⟩, rfl, i, nI i, p, by rw [e232, va_up_self, pk_un (by decide)]; exact ha, by rw [e232, va_up_self, pk_us], Or.inr ⟨i, by omega, rfl, by rw [hR, ps_no hi ((pstep_o hb hp).2 hno)]⟩, fun z => absurd z (nI_ne9 (by omega))⟩
        · rw [show (4 : Int32) = nI 4 from rfl, nI_leI (by omega) (by omega), Nat.not_le] at b186
          have hop : ps_opens (ps_l p) (t i) := Or.inr (Or.inr ⟨b178, b186⟩)
          have hS1 : SCN t n R (i + 1) (-9) (true, 82, 0, ps_f p, ps_l p) := Or.inl ⟨rfl, by rw [hR, ps_go hi ((pstep_o hb hp).1 hop), b178], by omega⟩
          refine ro_aload_n dX6_readPart_189 rfl rfl ?_
          refine ro_dup dX6_readPart_190 rfl ?_
          refine gf_X6_at  in_X6_readPart_X6 lk_X6_readPart_69 dX6_readPart_191 ?_
          rw [ha]
          refine ro_iconst (v := 1) dX6_readPart_194 (by decide) ?_
          refine ro_iadd dX6_readPart_195 ?_
          rw [nI_1]
          refine pf_X6_at  in_X6_readPart_X6 lk_X6_readPart_69  dX6_readPart_196 (fun M196 e196 => ?_)
          have ha196 : M196 102 16 = nI (i + 1) := by rw [e196, va_up_self, pk_us]
          have hf196 : M196 102 17 = -9 := by rw [e196, va_up_self, pk_un (by decide)]; exact hf
          have hn196 : M196 102 15 = nI n := by rw [e196, va_up_self, pk_un (by decide)]; exact hn
          have ht196 : ∀ j, j < n → M196 111 j = nI (t j) := by rw [e196, va_up_ne _ _ (by decide)]; exact ht
          have ho196 : ∀ q, q ≠ 102 → M196 q = M q := fun q hq => by rw [e196, va_up_ne _ _ hq]
          have hk196 : ∀ q, q ≠ 16 → q ≠ 17 → M196 102 q = M 102 q := fun q h1 h2 => by rw [e196, va_up_self, pk_un h1]
          refine ro_aload_n dX6_readPart_199 rfl rfl ?_
          refine gf_X6_readRain  in_X6_readPart_X6 lk_X6_readPart_31 dX6_readPart_200 ?_
          refine ro_aload_n dX6_readPart_203 rfl rfl ?_
          refine gf_X6_readRains  in_X6_readPart_X6 lk_X6_readPart_78 dX6_readPart_204 ?_
          rw [show M196 102 13 = nI (ln_r (ps_l p)) from (hk196 13 (by decide) (by decide)).trans hD.2.2.1]
          refine ro_aload_n dX6_readPart_207 rfl rfl ?_
          refine ro_bipush (v := 9) dX6_readPart_208 (by decide) ?_
          refine ro_callV1Q ok_X6_figureUpTo (cr_fig (lim := 10) (flt := -9) (i := i + 1) hf196 ha196 hn196 ht196 h255 h64 (by omega) (by omega) (by omega)) ce_X6 rfl rfl gX6_readPart_X6_figureUpTo (Nat.le_of_ble_eq_true rfl) (Nat.le_of_ble_eq_true rfl) dX6_readPart_210 (fun v210 M210 L210 q210 => ?_)
          obtain ⟨r210, j210, f210, rfl, e210, fg210, rfl⟩ := q210
          have ha210 : M210 102 16 = nI j210 := by rw [e210, va_up_self, pk_un (by decide), pk_us]
          have hf210 : M210 102 17 = f210 := by rw [e210, va_up_self, pk_us]
          have hn210 : M210 102 15 = nI n := by rw [e210, va_up_self, pk_un (by decide), pk_un (by decide)]; exact hn196
          have ht210 : ∀ j, j < n → M210 111 j = nI (t j) := by rw [e210, va_up_ne _ _ (by decide)]; exact ht196
          have ho210 : ∀ q, q ≠ 102 → M210 q = M196 q := fun q hq => by rw [e210, va_up_ne _ _ hq]
          have hk210 : ∀ q, q ≠ 16 → q ≠ 17 → M210 102 q = M196 102 q := fun q h1 h2 => by rw [e210, va_up_self, pk_un h2, pk_un h1]
          have hj210 : j210 ≤ i + 1 + 1 := by rcases fg210 with z | z <;> omega
          refine ro_as ar_110 rfl (by omega) dX6_readPart_213 (fun M213 e213 => ?_)
          have ha213 : M213 102 16 = nI j210 := by rw [e213, va_up_ne _ _ (by decide)]; exact ha210
          have hf213 : M213 102 17 = f210 := by rw [e213, va_up_ne _ _ (by decide)]; exact hf210
          have hn213 : M213 102 15 = nI n := by rw [e213, va_up_ne _ _ (by decide)]; exact hn210
          have ht213 : ∀ j, j < n → M213 111 j = nI (t j) := by rw [e213, va_up_ne _ _ (by decide)]; exact ht210
          have hk213 : M213 102 = M210 102 := by rw [e213, va_up_ne _ _ (by decide)]
          refine ro_aload_n dX6_readPart_214 rfl rfl ?_
          refine ro_dup dX6_readPart_215 rfl ?_
          refine gf_X6_readRains  in_X6_readPart_X6 lk_X6_readPart_78 dX6_readPart_216 ?_
          rw [show M213 102 13 = nI (ln_r (ps_l p)) from by rw [hk213, hk210 13 (by decide) (by decide), hk196 13 (by decide) (by decide)]; exact hD.2.2.1]
          refine ro_iconst (v := 1) dX6_readPart_219 (by decide) ?_
          refine ro_iadd dX6_readPart_220 ?_
          rw [nI_1]
          refine pf_X6_readRains  in_X6_readPart_X6 lk_X6_readPart_78  dX6_readPart_221 (fun M221 e221 => ?_)
          refine ro_goto 235 dX6_readPart_224 (by decide) ?_
          refine ro_vret rfl dX6_readPart_235 ?_
          obtain ⟨s1, w1⟩ := fig_s h64 (by decide) (by decide) rfl hS1 fg210 (ps_cl_R rfl rfl)
          have hrow : M221 110 = upd (M 110) (ln_r (ps_l p)) r210 := by rw [e221, va_up_ne _ _ (by decide), e213, va_up_self, ho210 110 (by decide), ho196 110 (by decide)]
          have h102 : ∀ q, q ≠ 16 → q ≠ 17 → q ≠ 13 → M221 102 q = M 102 q := fun q a1 a2 a3 => by rw [e221, va_up_self, pk_un a3, hk213, hk210 q a1 a2, hk196 q a1 a2]
          have hoth : ∀ q, q ≠ 102 → q ≠ 110 → M221 q = M q := fun q a1 a2 => by rw [e221, va_up_ne _ _ a1, e213, va_up_ne _ _ a2, ho210 q a1, ho196 q a1]
          refine ⟨rfl, ⟨fun q a1 a2 a3 a4 a5 => hoth q a1 a5, fun q a1 a2 a3 a4 a5 => h102 q a4 a5 a3, fun k hk => by rw [hoth 107 (by decide) (by decide)]⟩, rfl, _, _, _, by rw [e221, va_up_self, pk_un (by decide)]; exact ha213, by rw [e221, va_up_self, pk_un (by decide)]; exact hf213, s1, fun z => ?_⟩
          obtain ⟨y1, y2, y3, y4⟩ := w1 z
          refine ⟨by omega, rfl, rfl, ⟨ln_addR_ok okp.1 b186 (Nat.le_of_lt_succ y2), Or.inl rfl⟩, ?_⟩
          obtain ⟨d1, d2, d3, d4, d5, d6⟩ := hD
          refine ⟨(h102 11 (by decide) (by decide) (by decide)).trans d1, (h102 12 (by decide) (by decide) (by decide)).trans d2, by rw [e221, va_up_self, pk_us]; rfl, by rw [hoth 108 (by decide) (by decide)]; exact d4, by rw [hoth 109 (by decide) (by decide)]; exact d5, ?_⟩
          rw [hrow, y1]
          exact row_add d6
    · replace b75 : t i = 83 := (nI_eq (b := 83) (by omega) (by decide)).mp b75
      refine ro_aload_n dX6_readPart_78 rfl rfl ?_
      refine gf_X6_readSayings  in_X6_readPart_X6 lk_X6_readPart_75 dX6_readPart_79 ?_
      rw [hD.2.1]
      refine ro_bipush (v := 8) dX6_readPart_82 (by decide) ?_
      refine ro_icmp_ge 175 dX6_readPart_84 (by decide) (fun b84 => ?_) (fun b84 => ?_)
      · rw [show (8 : Int32) = nI 8 from rfl, nI_leI (by omega) (by omega)] at b84
        refine ro_iload_n dX6_readPart_175 rfl rfl ?_
        refine ro_bipush (v := 82) dX6_readPart_176 (by decide) ?_
        refine ro_icmp_ne 227 dX6_readPart_178 (by decide) (fun b178 => ?_) (fun b178 => ?_)
        · replace b178 : ¬ t i = 82 := fun z => b178 (by rw [z]; rfl)
          refine ro_aload_n dX6_readPart_227 rfl rfl ?_
          refine ro_aload_n dX6_readPart_228 rfl rfl ?_
          refine gf_X6_at  in_X6_readPart_X6 lk_X6_readPart_69 dX6_readPart_229 ?_
          rw [ha]
          refine pf_X6_faultAt  in_X6_readPart_X6 lk_X6_readPart_66  dX6_readPart_232 (fun M232 e232 => ?_)
          refine ro_vret rfl dX6_readPart_235 ?_
          have hno : ¬ ps_opens (ps_l p) (t i) := by
            unfold ps_opens
            omega
          refine ⟨rfl, ⟨fun q a1 a2 a3 a4 a5 => by rw [e232, va_up_ne _ _ a1], fun q a1 a2 a3 a4 a5 => by rw [e232, va_up_self, pk_un a5], fun k hk => by rw [e232, va_up_ne _ _ (by decide)]⟩, rfl, i, nI i, p, by rw [e232, va_up_self, pk_un (by decide)]; exact ha, by rw [e232, va_up_self, pk_us], Or.inr ⟨i, by omega, rfl, by rw [hR, ps_no hi ((pstep_o hb hp).2 hno)]⟩, fun z => absurd z (nI_ne9 (by omega))⟩
        · replace b178 : t i = 82 := (nI_eq (b := 82) (by omega) (by decide)).mp b178
          refine ro_aload_n dX6_readPart_181 rfl rfl ?_
          refine gf_X6_readRains  in_X6_readPart_X6 lk_X6_readPart_78 dX6_readPart_182 ?_
          rw [hD.2.2.1]
          refine ro_iconst (v := 4) dX6_readPart_185 (by decide) ?_
          refine ro_icmp_ge 227 dX6_readPart_186 (by decide) (fun b186 => ?_) (fun b186 => ?_)
          · rw [show (4 : Int32) = nI 4 from rfl, nI_leI (by omega) (by omega)] at b186
            refine ro_aload_n dX6_readPart_227 rfl rfl ?_
            refine ro_aload_n dX6_readPart_228 rfl rfl ?_
            refine gf_X6_at  in_X6_readPart_X6 lk_X6_readPart_69 dX6_readPart_229 ?_
            rw [ha]
            refine pf_X6_faultAt  in_X6_readPart_X6 lk_X6_readPart_66  dX6_readPart_232 (fun M232 e232 => ?_)
            refine ro_vret rfl dX6_readPart_235 ?_
            have hno : ¬ ps_opens (ps_l p) (t i) := by
              unfold ps_opens
              omega
            refine ⟨rfl, ⟨fun q a1 a2 a3 a4 a5 => by rw [e232, va_up_ne _ _ a1], fun q a1 a2 a3 a4 a5 => by rw [e232, va_up_self, pk_un a5], fun k hk => by rw [e232, va_up_ne _ _ (by decide)]⟩, rfl, i, nI i, p, by rw [e232, va_up_self, pk_un (by decide)]; exact ha, by rw [e232, va_up_self, pk_us], Or.inr ⟨i, by omega, rfl, by rw [hR, ps_no hi ((pstep_o hb hp).2 hno)]⟩, fun z => absurd z (nI_ne9 (by omega))⟩
          · rw [show (4 : Int32) = nI 4 from rfl, nI_leI (by omega) (by omega), Nat.not_le] at b186
            have hop : ps_opens (ps_l p) (t i) := Or.inr (Or.inr ⟨b178, b186⟩)
            have hS1 : SCN t n R (i + 1) (-9) (true, 82, 0, ps_f p, ps_l p) := Or.inl ⟨rfl, by rw [hR, ps_go hi ((pstep_o hb hp).1 hop), b178], by omega⟩
            refine ro_aload_n dX6_readPart_189 rfl rfl ?_
            refine ro_dup dX6_readPart_190 rfl ?_
            refine gf_X6_at  in_X6_readPart_X6 lk_X6_readPart_69 dX6_readPart_191 ?_
            rw [ha]
            refine ro_iconst (v := 1) dX6_readPart_194 (by decide) ?_
            refine ro_iadd dX6_readPart_195 ?_
            rw [nI_1]
            refine pf_X6_at  in_X6_readPart_X6 lk_X6_readPart_69  dX6_readPart_196 (fun M196 e196 => ?_)
            have ha196 : M196 102 16 = nI (i + 1) := by rw [e196, va_up_self, pk_us]
            have hf196 : M196 102 17 = -9 := by rw [e196, va_up_self, pk_un (by decide)]; exact hf
            have hn196 : M196 102 15 = nI n := by rw [e196, va_up_self, pk_un (by decide)]; exact hn
            have ht196 : ∀ j, j < n → M196 111 j = nI (t j) := by rw [e196, va_up_ne _ _ (by decide)]; exact ht
            have ho196 : ∀ q, q ≠ 102 → M196 q = M q := fun q hq => by rw [e196, va_up_ne _ _ hq]
            have hk196 : ∀ q, q ≠ 16 → q ≠ 17 → M196 102 q = M 102 q := fun q h1 h2 => by rw [e196, va_up_self, pk_un h1]
            refine ro_aload_n dX6_readPart_199 rfl rfl ?_
            refine gf_X6_readRain  in_X6_readPart_X6 lk_X6_readPart_31 dX6_readPart_200 ?_
            refine ro_aload_n dX6_readPart_203 rfl rfl ?_
            refine gf_X6_readRains  in_X6_readPart_X6 lk_X6_readPart_78 dX6_readPart_204 ?_
            rw [show M196 102 13 = nI (ln_r (ps_l p)) from (hk196 13 (by decide) (by decide)).trans hD.2.2.1]
            refine ro_aload_n dX6_readPart_207 rfl rfl ?_
            refine ro_bipush (v := 9) dX6_readPart_208 (by decide) ?_
            refine ro_callV1Q ok_X6_figureUpTo (cr_fig (lim := 10) (flt := -9) (i := i + 1) hf196 ha196 hn196 ht196 h255 h64 (by omega) (by omega) (by omega)) ce_X6 rfl rfl gX6_readPart_X6_figureUpTo (Nat.le_of_ble_eq_true rfl) (Nat.le_of_ble_eq_true rfl) dX6_readPart_210 (fun v210 M210 L210 q210 => ?_)
            obtain ⟨r210, j210, f210, rfl, e210, fg210, rfl⟩ := q210
            have ha210 : M210 102 16 = nI j210 := by rw [e210, va_up_self, pk_un (by decide), pk_us]
            have hf210 : M210 102 17 = f210 := by rw [e210, va_up_self, pk_us]
            have hn210 : M210 102 15 = nI n := by rw [e210, va_up_self, pk_un (by decide), pk_un (by decide)]; exact hn196
            have ht210 : ∀ j, j < n → M210 111 j = nI (t j) := by rw [e210, va_up_ne _ _ (by decide)]; exact ht196
            have ho210 : ∀ q, q ≠ 102 → M210 q = M196 q := fun q hq => by rw [e210, va_up_ne _ _ hq]
            have hk210 : ∀ q, q ≠ 16 → q ≠ 17 → M210 102 q = M196 102 q := fun q h1 h2 => by rw [e210, va_up_self, pk_un h2, pk_un h1]
            have hj210 : j210 ≤ i + 1 + 1 := by rcases fg210 with z | z <;> omega
            refine ro_as ar_110 rfl (by omega) dX6_readPart_213 (fun M213 e213 => ?_)
            have ha213 : M213 102 16 = nI j210 := by rw [e213, va_up_ne _ _ (by decide)]; exact ha210
            have hf213 : M213 102 17 = f210 := by rw [e213, va_up_ne _ _ (by decide)]; exact hf210
            have hn213 : M213 102 15 = nI n := by rw [e213, va_up_ne _ _ (by decide)]; exact hn210
            have ht213 : ∀ j, j < n → M213 111 j = nI (t j) := by rw [e213, va_up_ne _ _ (by decide)]; exact ht210
            have hk213 : M213 102 = M210 102 := by rw [e213, va_up_ne _ _ (by decide)]
            refine ro_aload_n dX6_readPart_214 rfl rfl ?_
            refine ro_dup dX6_readPart_215 rfl ?_
            refine gf_X6_readRains  in_X6_readPart_X6 lk_X6_readPart_78 dX6_readPart_216 ?_
            rw [show M213 102 13 = nI (ln_r (ps_l p)) from by rw [hk213, hk210 13 (by decide) (by decide), hk196 13 (by decide) (by decide)]; exact hD.2.2.1]
            refine ro_iconst (v := 1) dX6_readPart_219 (by decide) ?_
            refine ro_iadd dX6_readPart_220 ?_
            rw [nI_1]
            refine pf_X6_readRains  in_X6_readPart_X6 lk_X6_readPart_78  dX6_readPart_221 (fun M221 e221 => ?_)
            refine ro_goto 235 dX6_readPart_224 (by decide) ?_
            refine ro_vret rfl dX6_readPart_235 ?_
            obtain ⟨s1, w1⟩ := fig_s h64 (by decide) (by decide) rfl hS1 fg210 (ps_cl_R rfl rfl)
            have hrow : M221 110 = upd (M 110) (ln_r (ps_l p)) r210 := by rw [e221, va_up_ne _ _ (by decide), e213, va_up_self, ho210 110 (by decide), ho196 110 (by decide)]
            have h102 : ∀ q, q ≠ 16 → q ≠ 17 → q ≠ 13 → M221 102 q = M 102 q := fun q a1 a2 a3 => by rw [e221, va_up_self, pk_un a3, hk213, hk210 q a1 a2, hk196 q a1 a2]
            have hoth : ∀ q, q ≠ 102 → q ≠ 110 → M221 q = M q := fun q a1 a2 => by rw [e221, va_up_ne _ _ a1, e213, va_up_ne _ _ a2, ho210 q a1, ho196 q a1]
            refine ⟨rfl, ⟨fun q a1 a2 a3 a4 a5 => hoth q a1 a5, fun q a1 a2 a3 a4 a5 => h102 q a4 a5 a3, fun k hk => by rw [hoth 107 (by decide) (by decide)]⟩, rfl, _, _, _, by rw [e221, va_up_self, pk_un (by decide)]; exact ha213, by rw [e221, va_up_self, pk_un (by decide)]; exact hf213, s1, fun z => ?_⟩
            obtain ⟨y1, y2, y3, y4⟩ := w1 z
            refine ⟨by omega, rfl, rfl, ⟨ln_addR_ok okp.1 b186 (Nat.le_of_lt_succ y2), Or.inl rfl⟩, ?_⟩
            obtain ⟨d1, d2, d3, d4, d5, d6⟩ := hD
            refine ⟨(h102 11 (by decide) (by decide) (by decide)).trans d1, (h102 12 (by decide) (by decide) (by decide)).trans d2, by rw [e221, va_up_self, pk_us]; rfl, by rw [hoth 108 (by decide) (by decide)]; exact d4, by rw [hoth 109 (by decide) (by decide)]; exact d5, ?_⟩
            rw [hrow, y1]
            exact row_add d6
      · rw [show (8 : Int32) = nI 8 from rfl, nI_leI (by omega) (by omega), Nat.not_le] at b84
        refine ro_aload_n dX6_readPart_87 rfl rfl ?_
        refine gf_X6_readHouses  in_X6_readPart_X6 lk_X6_readPart_72 dX6_readPart_88 ?_
        rw [hD.1]
        refine ro_if_le 175 dX6_readPart_91 (by decide) (fun b91 => ?_) (fun b91 => ?_)
        · rw [nI_le0 (by omega)] at b91
          refine ro_iload_n dX6_readPart_175 rfl rfl ?_
          refine ro_bipush (v := 82) dX6_readPart_176 (by decide) ?_
          refine ro_icmp_ne 227 dX6_readPart_178 (by decide) (fun b178 => ?_) (fun b178 => ?_)
          · replace b178 : ¬ t i = 82 := fun z => b178 (by rw [z]; rfl)
            refine ro_aload_n dX6_readPart_227 rfl rfl ?_
            refine ro_aload_n dX6_readPart_228 rfl rfl ?_
            refine gf_X6_at  in_X6_readPart_X6 lk_X6_readPart_69 dX6_readPart_229 ?_
            rw [ha]
            refine pf_X6_faultAt  in_X6_readPart_X6 lk_X6_readPart_66  dX6_readPart_232 (fun M232 e232 => ?_)
            refine ro_vret rfl dX6_readPart_235 ?_
            have hno : ¬ ps_opens (ps_l p) (t i) := by
              unfold ps_opens
              omega
            refine ⟨rfl, ⟨fun q a1 a2 a3 a4 a5 => by rw [e232, va_up_ne _ _ a1], fun q a1 a2 a3 a4 a5 => by rw [e232, va_up_self, pk_un a5], fun k hk => by rw [e232, va_up_ne _ _ (by decide)]⟩, rfl, i, nI i, p, by rw [e232, va_up_self, pk_un (by decide)]; exact ha, by rw [e232, va_up_self, pk_us], Or.inr ⟨i, by omega, rfl, by rw [hR, ps_no hi ((pstep_o hb hp).2 hno)]⟩, fun z => absurd z (nI_ne9 (by omega))⟩
          · replace b178 : t i = 82 := (nI_eq (b := 82) (by omega) (by decide)).mp b178
            refine ro_aload_n dX6_readPart_181 rfl rfl ?_
            refine gf_X6_readRains  in_X6_readPart_X6 lk_X6_readPart_78 dX6_readPart_182 ?_
            rw [hD.2.2.1]
            refine ro_iconst (v := 4) dX6_readPart_185 (by decide) ?_
            refine ro_icmp_ge 227 dX6_readPart_186 (by decide) (fun b186 => ?_) (fun b186 => ?_)
            · rw [show (4 : Int32) = nI 4 from rfl, nI_leI (by omega) (by omega)] at b186
              refine ro_aload_n dX6_readPart_227 rfl rfl ?_
              refine ro_aload_n dX6_readPart_228 rfl rfl ?_
              refine gf_X6_at  in_X6_readPart_X6 lk_X6_readPart_69 dX6_readPart_229 ?_
              rw [ha]
              refine pf_X6_faultAt  in_X6_readPart_X6 lk_X6_readPart_66  dX6_readPart_232 (fun M232 e232 => ?_)
              refine ro_vret rfl dX6_readPart_235 ?_
              have hno : ¬ ps_opens (ps_l p) (t i) := by
                unfold ps_opens
                omega
              refine ⟨rfl, ⟨fun q a1 a2 a3 a4 a5 => by rw [e232, va_up_ne _ _ a1], fun q a1 a2 a3 a4 a5 => by rw [e232, va_up_self, pk_un a5], fun k hk => by rw [e232, va_up_ne _ _ (by decide)]⟩, rfl, i, nI i, p, by rw [e232, va_up_self, pk_un (by decide)]; exact ha, by rw [e232, va_up_self, pk_us], Or.inr ⟨i, by omega, rfl, by rw [hR, ps_no hi ((pstep_o hb hp).2 hno)]⟩, fun z => absurd z (nI_ne9 (by omega))⟩
            · rw [show (4 : Int32) = nI 4 from rfl, nI_leI (by omega) (by omega), Nat.not_le] at b186
              have hop : ps_opens (ps_l p) (t i) := Or.inr (Or.inr ⟨b178, b186⟩)
              have hS1 : SCN t n R (i + 1) (-9) (true, 82, 0, ps_f p, ps_l p) := Or.inl ⟨rfl, by rw [hR, ps_go hi ((pstep_o hb hp).1 hop), b178], by omega⟩
              refine ro_aload_n dX6_readPart_189 rfl rfl ?_
              refine ro_dup dX6_readPart_190 rfl ?_
              refine gf_X6_at  in_X6_readPart_X6 lk_X6_readPart_69 dX6_readPart_191 ?_
              rw [ha]
              refine ro_iconst (v := 1) dX6_readPart_194 (by decide) ?_
              refine ro_iadd dX6_readPart_195 ?_
              rw [nI_1]
              refine pf_X6_at  in_X6_readPart_X6 lk_X6_readPart_69  dX6_readPart_196 (fun M196 e196 => ?_)
              have ha196 : M196 102 16 = nI (i + 1) := by rw [e196, va_up_self, pk_us]
              have hf196 : M196 102 17 = -9 := by rw [e196, va_up_self, pk_un (by decide)]; exact hf
              have hn196 : M196 102 15 = nI n := by rw [e196, va_up_self, pk_un (by decide)]; exact hn
              have ht196 : ∀ j, j < n → M196 111 j = nI (t j) := by rw [e196, va_up_ne _ _ (by decide)]; exact ht
              have ho196 : ∀ q, q ≠ 102 → M196 q = M q := fun q hq => by rw [e196, va_up_ne _ _ hq]
              have hk196 : ∀ q, q ≠ 16 → q ≠ 17 → M196 102 q = M 102 q := fun q h1 h2 => by rw [e196, va_up_self, pk_un h1]
              refine ro_aload_n dX6_readPart_199 rfl rfl ?_
              refine gf_X6_readRain  in_X6_readPart_X6 lk_X6_readPart_31 dX6_readPart_200 ?_
              refine ro_aload_n dX6_readPart_203 rfl rfl ?_
              refine gf_X6_readRains  in_X6_readPart_X6 lk_X6_readPart_78 dX6_readPart_204 ?_
              rw [show M196 102 13 = nI (ln_r (ps_l p)) from (hk196 13 (by decide) (by decide)).trans hD.2.2.1]
              refine ro_aload_n dX6_readPart_207 rfl rfl ?_
              refine ro_bipush (v := 9) dX6_readPart_208 (by decide) ?_
              refine ro_callV1Q ok_X6_figureUpTo (cr_fig (lim := 10) (flt := -9) (i := i + 1) hf196 ha196 hn196 ht196 h255 h64 (by omega) (by omega) (by omega)) ce_X6 rfl rfl gX6_readPart_X6_figureUpTo (Nat.le_of_ble_eq_true rfl) (Nat.le_of_ble_eq_true rfl) dX6_readPart_210 (fun v210 M210 L210 q210 => ?_)
              obtain ⟨r210, j210, f210, rfl, e210, fg210, rfl⟩ := q210
              have ha210 : M210 102 16 = nI j210 := by rw [e210, va_up_self, pk_un (by decide), pk_us]
              have hf210 : M210 102 17 = f210 := by rw [e210, va_up_self, pk_us]
              have hn210 : M210 102 15 = nI n := by rw [e210, va_up_self, pk_un (by decide), pk_un (by decide)]; exact hn196
              have ht210 : ∀ j, j < n → M210 111 j = nI (t j) := by rw [e210, va_up_ne _ _ (by decide)]; exact ht196
              have ho210 : ∀ q, q ≠ 102 → M210 q = M196 q := fun q hq => by rw [e210, va_up_ne _ _ hq]
              have hk210 : ∀ q, q ≠ 16 → q ≠ 17 → M210 102 q = M196 102 q := fun q h1 h2 => by rw [e210, va_up_self, pk_un h2, pk_un h1]
              have hj210 : j210 ≤ i + 1 + 1 := by rcases fg210 with z | z <;> omega
              refine ro_as ar_110 rfl (by omega) dX6_readPart_213 (fun M213 e213 => ?_)
              have ha213 : M213 102 16 = nI j210 := by rw [e213, va_up_ne _ _ (by decide)]; exact ha210
              have hf213 : M213 102 17 = f210 := by rw [e213, va_up_ne _ _ (by decide)]; exact hf210
              have hn213 : M213 102 15 = nI n := by rw [e213, va_up_ne _ _ (by decide)]; exact hn210
              have ht213 : ∀ j, j < n → M213 111 j = nI (t j) := by rw [e213, va_up_ne _ _ (by decide)]; exact ht210
              have hk213 : M213 102 = M210 102 := by rw [e213, va_up_ne _ _ (by decide)]
              refine ro_aload_n dX6_readPart_214 rfl rfl ?_
              refine ro_dup dX6_readPart_215 rfl ?_
              refine gf_X6_readRains  in_X6_readPart_X6 lk_X6_readPart_78 dX6_readPart_216 ?_
              rw [show M213 102 13 = nI (ln_r (ps_l p)) from by rw [hk213, hk210 13 (by decide) (by decide), hk196 13 (by decide) (by decide)]; exact hD.2.2.1]
              refine ro_iconst (v := 1) dX6_readPart_219 (by decide) ?_
              refine ro_iadd dX6_readPart_220 ?_
              rw [nI_1]
              refine pf_X6_readRains  in_X6_readPart_X6 lk_X6_readPart_78  dX6_readPart_221 (fun M221 e221 => ?_)
              refine ro_goto 235 dX6_readPart_224 (by decide) ?_
              refine ro_vret rfl dX6_readPart_235 ?_
              obtain ⟨s1, w1⟩ := fig_s h64 (by decide) (by decide) rfl hS1 fg210 (ps_cl_R rfl rfl)
              have hrow : M221 110 = upd (M 110) (ln_r (ps_l p)) r210 := by rw [e221, va_up_ne _ _ (by decide), e213, va_up_self, ho210 110 (by decide), ho196 110 (by decide)]
              have h102 : ∀ q, q ≠ 16 → q ≠ 17 → q ≠ 13 → M221 102 q = M 102 q := fun q a1 a2 a3 => by rw [e221, va_up_self, pk_un a3, hk213, hk210 q a1 a2, hk196 q a1 a2]
              have hoth : ∀ q, q ≠ 102 → q ≠ 110 → M221 q = M q := fun q a1 a2 => by rw [e221, va_up_ne _ _ a1, e213, va_up_ne _ _ a2, ho210 q a1, ho196 q a1]
              refine ⟨rfl, ⟨fun q a1 a2 a3 a4 a5 => hoth q a1 a5, fun q a1 a2 a3 a4 a5 => h102 q a4 a5 a3, fun k hk => by rw [hoth 107 (by decide) (by decide)]⟩, rfl, _, _, _, by rw [e221, va_up_self, pk_un (by decide)]; exact ha213, by rw [e221, va_up_self, pk_un (by decide)]; exact hf213, s1, fun z => ?_⟩
              obtain ⟨y1, y2, y3, y4⟩ := w1 z
              refine ⟨by omega, rfl, rfl, ⟨ln_addR_ok okp.1 b186 (Nat.le_of_lt_succ y2), Or.inl rfl⟩, ?_⟩
              obtain ⟨d1, d2, d3, d4, d5, d6⟩ := hD
              refine ⟨(h102 11 (by decide) (by decide) (by decide)).trans d1, (h102 12 (by decide) (by decide) (by decide)).trans d2, by rw [e221, va_up_self, pk_us]; rfl, by rw [hoth 108 (by decide) (by decide)]; exact d4, by rw [hoth 109 (by decide) (by decide)]; exact d5, ?_⟩
              rw [hrow, y1]
              exact row_add d6
        · rw [nI_le0 (by omega)] at b91
          have hop : ps_opens (ps_l p) (t i) := Or.inr (Or.inl ⟨b75, by omega, b84⟩)
          have hS1 : SCN t n R (i + 1) (-9) (true, 83, 0, ps_f p, ps_l p) := Or.inl ⟨rfl, by rw [hR, ps_go hi ((pstep_o hb hp).1 hop), b75], by omega⟩
          refine ro_aload_n dX6_readPart_94 rfl rfl ?_
          refine ro_dup dX6_readPart_95 rfl ?_
          refine gf_X6_at  in_X6_readPart_X6 lk_X6_readPart_69 dX6_readPart_96 ?_
          rw [ha]
          refine ro_iconst (v := 1) dX6_readPart_99 (by decide) ?_
          refine ro_iadd dX6_readPart_100 ?_
          rw [nI_1]
          refine pf_X6_at  in_X6_readPart_X6 lk_X6_readPart_69  dX6_readPart_101 (fun M101 e101 => ?_)
          have ha101 : M101 102 16 = nI (i + 1) := by rw [e101, va_up_self, pk_us]
          have hf101 : M101 102 17 = -9 := by rw [e101, va_up_self, pk_un (by decide)]; exact hf
          have hn101 : M101 102 15 = nI n := by rw [e101, va_up_self, pk_un (by decide)]; exact hn
          have ht101 : ∀ j, j < n → M101 111 j = nI (t j) := by rw [e101, va_up_ne _ _ (by decide)]; exact ht
          have ho101 : ∀ q, q ≠ 102 → M101 q = M q := fun q hq => by rw [e101, va_up_ne _ _ hq]
          have hk101 : ∀ q, q ≠ 16 → q ≠ 17 → M101 102 q = M 102 q := fun q h1 h2 => by rw [e101, va_up_self, pk_un h1]
          refine ro_aload_n dX6_readPart_104 rfl rfl ?_
          refine gf_X6_readSaying  in_X6_readPart_X6 lk_X6_readPart_28 dX6_readPart_105 ?_
          refine ro_iconst (v := 3) dX6_readPart_108 (by decide) ?_
          refine ro_aload_n dX6_readPart_109 rfl rfl ?_
          refine gf_X6_readSayings  in_X6_readPart_X6 lk_X6_readPart_75 dX6_readPart_110 ?_
          rw [show M101 102 12 = nI (ln_s (ps_l p)) from (hk101 12 (by decide) (by decide)).trans hD.2.1]
          refine ro_imul dX6_readPart_113 ?_
          refine ro_top (show _ = nI (3 * ln_s (ps_l p)) from pk_mul 3 _) ?_
          refine ro_aload_n dX6_readPart_114 rfl rfl ?_
          refine ro_aload_n dX6_readPart_115 rfl rfl ?_
          refine gf_X6_readHouses  in_X6_readPart_X6 lk_X6_readPart_72 dX6_readPart_116 ?_
          rw [show M101 102 11 = nI (ln_n (ps_l p)) from (hk101 11 (by decide) (by decide)).trans hD.1]
          refine ro_iconst (v := 1) dX6_readPart_119 (by decide) ?_
          refine ro_isub dX6_readPart_120 ?_
          refine ro_top (show _ = nI (ln_n (ps_l p) - 1) from pk_sub (b := 1) (by omega)) ?_
          refine ro_callV1Q ok_X6_figureUpTo (cr_fig (lim := ln_n (ps_l p)) (flt := -9) (i := i + 1) hf101 ha101 hn101 ht101 h255 h64 (by omega) (by omega) (by omega)) ce_X6 rfl rfl gX6_readPart_X6_figureUpTo (Nat.le_of_ble_eq_true rfl) (Nat.le_of_ble_eq_true rfl) dX6_readPart_121 (fun v121 M121 L121 q121 => ?_)
          obtain ⟨r121, j121, f121, rfl, e121, fg121, rfl⟩ := q121
          have ha121 : M121 102 16 = nI j121 := by rw [e121, va_up_self, pk_un (by decide), pk_us]
          have hf121 : M121 102 17 = f121 := by rw [e121, va_up_self, pk_us]
          have hn121 : M121 102 15 = nI n := by rw [e121, va_up_self, pk_un (by decide), pk_un (by decide)]; exact hn101
          have ht121 : ∀ j, j < n → M121 111 j = nI (t j) := by rw [e121, va_up_ne _ _ (by decide)]; exact ht101
          have ho121 : ∀ q, q ≠ 102 → M121 q = M101 q := fun q hq => by rw [e121, va_up_ne _ _ hq]
          have hk121 : ∀ q, q ≠ 16 → q ≠ 17 → M121 102 q = M101 102 q := fun q h1 h2 => by rw [e121, va_up_self, pk_un h2, pk_un h1]
          have hj121 : j121 ≤ i + 1 + 1 := by rcases fg121 with z | z <;> omega
          refine ro_as ar_109 rfl (by omega) dX6_readPart_124 (fun M124 e124 => ?_)
          have ha124 : M124 102 16 = nI j121 := by rw [e124, va_up_ne _ _ (by decide)]; exact ha121
          have hf124 : M124 102 17 = f121 := by rw [e124, va_up_ne _ _ (by decide)]; exact hf121
          have hn124 : M124 102 15 = nI n := by rw [e124, va_up_ne _ _ (by decide)]; exact hn121
          have ht124 : ∀ j, j < n → M124 111 j = nI (t j) := by rw [e124, va_up_ne _ _ (by decide)]; exact ht121
          have hk124 : M124 102 = M121 102 := by rw [e124, va_up_ne _ _ (by decide)]
          refine ro_aload_n dX6_readPart_125 rfl rfl ?_
          refine gf_X6_readSaying  in_X6_readPart_X6 lk_X6_readPart_28 dX6_readPart_126 ?_
          refine ro_iconst (v := 3) dX6_readPart_129 (by decide) ?_
          refine ro_aload_n dX6_readPart_130 rfl rfl ?_
          refine gf_X6_readSayings  in_X6_readPart_X6 lk_X6_readPart_75 dX6_readPart_131 ?_
          rw [show M124 102 12 = nI (ln_s (ps_l p)) from by rw [hk124, hk121 12 (by decide) (by decide), hk101 12 (by decide) (by decide)]; exact hD.2.1]
          refine ro_imul dX6_readPart_134 ?_
          refine ro_top (show _ = nI (3 * ln_s (ps_l p)) from pk_mul 3 _) ?_
          refine ro_iconst (v := 1) dX6_readPart_135 (by decide) ?_
          refine ro_iadd dX6_readPart_136 ?_
          refine ro_top (show _ = nI (3 * ln_s (ps_l p) + 1) from nI_add (3 * ln_s (ps_l p)) (1)) ?_
          refine ro_aload_n dX6_readPart_137 rfl rfl ?_
          refine ro_iconst (v := 5) dX6_readPart_138 (by decide) ?_
          refine ro_callV1Q ok_X6_figureUpTo (cr_fig (lim := 6) (flt := f121) (i := j121) hf124 ha124 hn124 ht124 h255 h64 (by omega) (by omega) (by omega)) ce_X6 rfl rfl gX6_readPart_X6_figureUpTo (Nat.le_of_ble_eq_true rfl) (Nat.le_of_ble_eq_true rfl) dX6_readPart_139 (fun v139 M139 L139 q139 => ?_)
          obtain ⟨r139, j139, f139, rfl, e139, fg139, rfl⟩ := q139
          have ha139 : M139 102 16 = nI j139 := by rw [e139, va_up_self, pk_un (by decide), pk_us]
          have hf139 : M139 102 17 = f139 := by rw [e139, va_up_self, pk_us]
          have hn139 : M139 102 15 = nI n := by rw [e139, va_up_self, pk_un (by decide), pk_un (by decide)]; exact hn124
          have ht139 : ∀ j, j < n → M139 111 j = nI (t j) := by rw [e139, va_up_ne _ _ (by decide)]; exact ht124
          have ho139 : ∀ q, q ≠ 102 → M139 q = M124 q := fun q hq => by rw [e139, va_up_ne _ _ hq]
          have hk139 : ∀ q, q ≠ 16 → q ≠ 17 → M139 102 q = M124 102 q := fun q h1 h2 => by rw [e139, va_up_self, pk_un h2, pk_un h1]
          have hj139 : j139 ≤ j121 + 1 := by rcases fg139 with z | z <;> omega
          refine ro_as ar_109 rfl (by omega) dX6_readPart_142 (fun M142 e142 => ?_)
          have ha142 : M142 102 16 = nI j139 := by rw [e142, va_up_ne _ _ (by decide)]; exact ha139
          have hf142 : M142 102 17 = f139 := by rw [e142, va_up_ne _ _ (by decide)]; exact hf139
          have hn142 : M142 102 15 = nI n := by rw [e142, va_up_ne _ _ (by decide)]; exact hn139
          have ht142 : ∀ j, j < n → M142 111 j = nI (t j) := by rw [e142, va_up_ne _ _ (by decide)]; exact ht139
          have hk142 : M142 102 = M139 102 := by rw [e142, va_up_ne _ _ (by decide)]
          refine ro_aload_n dX6_readPart_143 rfl rfl ?_
          refine gf_X6_readSaying  in_X6_readPart_X6 lk_X6_readPart_28 dX6_readPart_144 ?_
          refine ro_iconst (v := 3) dX6_readPart_147 (by decide) ?_
          refine ro_aload_n dX6_readPart_148 rfl rfl ?_
          refine gf_X6_readSayings  in_X6_readPart_X6 lk_X6_readPart_75 dX6_readPart_149 ?_
          rw [show M142 102 12 = nI (ln_s (ps_l p)) from by rw [hk142, hk139 12 (by decide) (by decide), hk124, hk121 12 (by decide) (by decide), hk101 12 (by decide) (by decide)]; exact hD.2.1]
          refine ro_imul dX6_readPart_152 ?_
          refine ro_top (show _ = nI (3 * ln_s (ps_l p)) from pk_mul 3 _) ?_
          refine ro_iconst (v := 2) dX6_readPart_153 (by decide) ?_
          refine ro_iadd dX6_readPart_154 ?_
          refine ro_top (show _ = nI (3 * ln_s (ps_l p) + 2) from nI_add (3 * ln_s (ps_l p)) (2)) ?_
          refine ro_aload_n dX6_readPart_155 rfl rfl ?_
          refine ro_bipush (v := 9) dX6_readPart_156 (by decide) ?_
          refine ro_callV1Q ok_X6_figureUpTo (cr_fig (lim := 10) (flt := f139) (i := j139) hf142 ha142 hn142 ht142 h255 h64 (by omega) (by omega) (by omega)) ce_X6 rfl rfl gX6_readPart_X6_figureUpTo (Nat.le_of_ble_eq_true rfl) (Nat.le_of_ble_eq_true rfl) dX6_readPart_158 (fun v158 M158 L158 q158 => ?_)
          obtain ⟨r158, j158, f158, rfl, e158, fg158, rfl⟩ := q158
          have ha158 : M158 102 16 = nI j158 := by rw [e158, va_up_self, pk_un (by decide), pk_us]
          have hf158 : M158 102 17 = f158 := by rw [e158, va_up_self, pk_us]
          have hn158 : M158 102 15 = nI n := by rw [e158, va_up_self, pk_un (by decide), pk_un (by decide)]; exact hn142
          have ht158 : ∀ j, j < n → M158 111 j = nI (t j) := by rw [e158, va_up_ne _ _ (by decide)]; exact ht142
          have ho158 : ∀ q, q ≠ 102 → M158 q = M142 q := fun q hq => by rw [e158, va_up_ne _ _ hq]
          have hk158 : ∀ q, q ≠ 16 → q ≠ 17 → M158 102 q = M142 102 q := fun q h1 h2 => by rw [e158, va_up_self, pk_un h2, pk_un h1]
          have hj158 : j158 ≤ j139 + 1 := by rcases fg158 with z | z <;> omega
          refine ro_as ar_109 rfl (by omega) dX6_readPart_161 (fun M161 e161 => ?_)
          have ha161 : M161 102 16 = nI j158 := by rw [e161, va_up_ne _ _ (by decide)]; exact ha158
          have hf161 : M161 102 17 = f158 := by rw [e161, va_up_ne _ _ (by decide)]; exact hf158
          have hn161 : M161 102 15 = nI n := by rw [e161, va_up_ne _ _ (by decide)]; exact hn158
          have ht161 : ∀ j, j < n → M161 111 j = nI (t j) := by rw [e161, va_up_ne _ _ (by decide)]; exact ht158
          have hk161 : M161 102 = M158 102 := by rw [e161, va_up_ne _ _ (by decide)]
          refine ro_aload_n dX6_readPart_162 rfl rfl ?_
          refine ro_dup dX6_readPart_163 rfl ?_
          refine gf_X6_readSayings  in_X6_readPart_X6 lk_X6_readPart_75 dX6_readPart_164 ?_
          rw [show M161 102 12 = nI (ln_s (ps_l p)) from by rw [hk161, hk158 12 (by decide) (by decide), hk142, hk139 12 (by decide) (by decide), hk124, hk121 12 (by decide) (by decide), hk101 12 (by decide) (by decide)]; exact hD.2.1]
          refine ro_iconst (v := 1) dX6_readPart_167 (by decide) ?_
          refine ro_iadd dX6_readPart_168 ?_
          rw [nI_1]
          refine pf_X6_readSayings  in_X6_readPart_X6 lk_X6_readPart_75  dX6_readPart_169 (fun M169 e169 => ?_)
          refine ro_goto 235 dX6_readPart_172 (by decide) ?_
          refine ro_vret rfl dX6_readPart_235 ?_
          obtain ⟨s1, w1⟩ := fig_s h64 (by decide) (by decide) rfl hS1 fg121 (ps_cl_N (by decide) (by decide) (by decide))
          obtain ⟨s2, w2⟩ := fig_s h64 (by decide) (by decide) rfl s1 fg139 (ps_cl_N (by decide) (by decide) (by decide))
          obtain ⟨s3, w3⟩ := fig_s h64 (by decide) (by decide) rfl s2 fg158 (ps_cl_S rfl rfl)
          have hrow : M169 109 = upd (upd (upd (M 109) (3 * ln_s (ps_l p)) r121) (3 * ln_s (ps_l p) + 1) r139) (3 * ln_s (ps_l p) + 2) r158 := by rw [e169, va_up_ne _ _ (by decide), e161, va_up_self, ho158 109 (by decide), e142, va_up_self, ho139 109 (by decide), e124, va_up_self, ho121 109 (by decide), ho101 109 (by decide)]
          have h102 : ∀ q, q ≠ 16 → q ≠ 17 → q ≠ 12 → M169 102 q = M 102 q := fun q a1 a2 a3 => by rw [e169, va_up_self, pk_un a3, hk161, hk158 q a1 a2, hk142, hk139 q a1 a2, hk124, hk121 q a1 a2, hk101 q a1 a2]
          have hoth : ∀ q, q ≠ 102 → q ≠ 109 → M169 q = M q := fun q a1 a2 => by rw [e169, va_up_ne _ _ a1, e161, va_up_ne _ _ a2, ho158 q a1, e142, va_up_ne _ _ a2, ho139 q a1, e124, va_up_ne _ _ a2, ho121 q a1, ho101 q a1]
          refine ⟨rfl, ⟨fun q a1 a2 a3 a4 a5 => hoth q a1 a4, fun q a1 a2 a3 a4 a5 => h102 q a4 a5 a2, fun k hk => by rw [hoth 107 (by decide) (by decide)]⟩, rfl, _, _, _, by rw [e169, va_up_self, pk_un (by decide)]; exact ha161, by rw [e169, va_up_self, pk_un (by decide)]; exact hf161, s3, fun z => ?_⟩
          obtain ⟨v1, v2, v3, v4⟩ := w3 z
          obtain ⟨x1, x2, x3, x4⟩ := w2 v3
          obtain ⟨y1, y2, y3, y4⟩ := w1 x3
          refine ⟨by omega, rfl, rfl, ⟨ln_addS_ok okp.1 b84 y2 x2 (Nat.le_of_lt_succ v2), Or.inl rfl⟩, ?_⟩
          obtain ⟨d1, d2, d3, d4, d5, d6⟩ := hD
          refine ⟨(h102 11 (by decide) (by decide) (by decide)).trans d1, by rw [e169, va_up_self, pk_us]; rfl, (h102 13 (by decide) (by decide) (by decide)).trans d3, by rw [hoth 108 (by decide) (by decide)]; exact d4, fun j hj => ?_, by rw [hoth 110 (by decide) (by decide)]; exact d6⟩
          have hj2 : j < ln_s (ps_l p) + 1 := hj
          show M169 109 (3 * j) = nI (va_up (ln_place (ps_l p)) (ln_s (ps_l p)) _ j) ∧ M169 109 (3 * j + 1) = nI (va_up (ln_thing (ps_l p)) (ln_s (ps_l p)) _ j) ∧ M169 109 (3 * j + 2) = nI (va_up (ln_loud (ps_l p)) (ln_s (ps_l p)) _ j)
          rw [hrow]
          by_cases e : j = ln_s (ps_l p)
          · subst e
            rw [va_up_self, va_up_self, va_up_self, pk_un (by omega), pk_un (by omega), pk_us, pk_un (by omega), pk_us, pk_us, v1, x1, y1]
            exact ⟨rfl, rfl, rfl⟩
          · rw [va_up_ne _ _ e, va_up_ne _ _ e, va_up_ne _ _ e, pk_un (by omega), pk_un (by omega), pk_un (by omega), pk_un (by omega), pk_un (by omega), pk_un (by omega), pk_un (by omega), pk_un (by omega), pk_un (by omega)]
            exact d5 j (by omega)
  · replace b3 : t i = 72 := (nI_eq (b := 72) (by omega) (by decide)).mp b3
    refine ro_aload_n dX6_readPart_6 rfl rfl ?_
    refine gf_X6_readHouses  in_X6_readPart_X6 lk_X6_readPart_72 dX6_readPart_7 ?_
    rw [hD.1]
    refine ro_iconst (v := 5) dX6_readPart_10 (by decide) ?_
    refine ro_icmp_ge 72 dX6_readPart_11 (by decide) (fun b11 => ?_) (fun b11 => ?_)
    · rw [show (5 : Int32) = nI 5 from rfl, nI_leI (by omega) (by omega)] at b11
      refine ro_iload_n dX6_readPart_72 rfl rfl ?_
      refine ro_bipush (v := 83) dX6_readPart_73 (by decide) ?_
      refine ro_icmp_ne 175 dX6_readPart_75 (by decide) (fun b75 => ?_) (fun b75 => ?_)
      · replace b75 : ¬ t i = 83 := fun z => b75 (by rw [z]; rfl)
        refine ro_iload_n dX6_readPart_175 rfl rfl ?_
        refine ro_bipush (v := 82) dX6_readPart_176 (by decide) ?_
        refine ro_icmp_ne 227 dX6_readPart_178 (by decide) (fun b178 => ?_) (fun b178 => ?_)
        · replace b178 : ¬ t i = 82 := fun z => b178 (by rw [z]; rfl)
          refine ro_aload_n dX6_readPart_227 rfl rfl ?_
          refine ro_aload_n dX6_readPart_228 rfl rfl ?_
          refine gf_X6_at  in_X6_readPart_X6 lk_X6_readPart_69 dX6_readPart_229 ?_
          rw [ha]
          refine pf_X6_faultAt  in_X6_readPart_X6 lk_X6_readPart_66  dX6_readPart_232 (fun M232 e232 => ?_)
          refine ro_vret rfl dX6_readPart_235 ?_
          have hno : ¬ ps_opens (ps_l p) (t i) := by
            unfold ps_opens
            omega
          refine ⟨rfl, ⟨fun q a1 a2 a3 a4 a5 => by rw [e232, va_up_ne _ _ a1], fun q a1 a2 a3 a4 a5 => by rw [e232, va_up_self, pk_un a5], fun k hk => by rw [e232, va_up_ne _ _ (by decide)]⟩, rfl, i, nI i, p, by rw [e232, va_up_self, pk_un (by decide)]; exact ha, by rw [e232, va_up_self, pk_us], Or.inr ⟨i, by omega, rfl, by rw [hR, ps_no hi ((pstep_o hb hp).2 hno)]⟩, fun z => absurd z (nI_ne9 (by omega))⟩
        · replace b178 : t i = 82 := (nI_eq (b := 82) (by omega) (by decide)).mp b178
          refine ro_aload_n dX6_readPart_181 rfl rfl ?_
          refine gf_X6_readRains  in_X6_readPart_X6 lk_X6_readPart_78 dX6_readPart_182 ?_
          rw [hD.2.2.1]
          refine ro_iconst (v := 4) dX6_readPart_185 (by decide) ?_
          refine ro_icmp_ge 227 dX6_readPart_186 (by decide) (fun b186 => ?_) (fun b186 => ?_)
          · rw [show (4 : Int32) = nI 4 from rfl, nI_leI (by omega) (by omega)] at b186
            refine ro_aload_n dX6_readPart_227 rfl rfl ?_
            refine ro_aload_n dX6_readPart_228 rfl rfl ?_
            refine gf_X6_at  in_X6_readPart_X6 lk_X6_readPart_69 dX6_readPart_229 ?_
            rw [ha]
            refine pf_X6_faultAt  in_X6_readPart_X6 lk_X6_readPart_66  dX6_readPart_232 (fun M232 e232 => ?_)
            refine ro_vret rfl dX6_readPart_235 ?_
            have hno : ¬ ps_opens (ps_l p) (t i) := by
              unfold ps_opens
              omega
            refine ⟨rfl, ⟨fun q a1 a2 a3 a4 a5 => by rw [e232, va_up_ne _ _ a1], fun q a1 a2 a3 a4 a5 => by rw [e232, va_up_self, pk_un a5], fun k hk => by rw [e232, va_up_ne _ _ (by decide)]⟩, rfl, i, nI i, p, by rw [e232, va_up_self, pk_un (by decide)]; exact ha, by rw [e232, va_up_self, pk_us], Or.inr ⟨i, by omega, rfl, by rw [hR, ps_no hi ((pstep_o hb hp).2 hno)]⟩, fun z => absurd z (nI_ne9 (by omega))⟩
          · rw [show (4 : Int32) = nI 4 from rfl, nI_leI (by omega) (by omega), Nat.not_le] at b186
            have hop : ps_opens (ps_l p) (t i) := Or.inr (Or.inr ⟨b178, b186⟩)
            have hS1 : SCN t n R (i + 1) (-9) (true, 82, 0, ps_f p, ps_l p) := Or.inl ⟨rfl, by rw [hR, ps_go hi ((pstep_o hb hp).1 hop), b178], by omega⟩
            refine ro_aload_n dX6_readPart_189 rfl rfl ?_
            refine ro_dup dX6_readPart_190 rfl ?_
            refine gf_X6_at  in_X6_readPart_X6 lk_X6_readPart_69 dX6_readPart_191 ?_
            rw [ha]
            refine ro_iconst (v := 1) dX6_readPart_194 (by decide) ?_
            refine ro_iadd dX6_readPart_195 ?_
            rw [nI_1]
            refine pf_X6_at  in_X6_readPart_X6 lk_X6_readPart_69  dX6_readPart_196 (fun M196 e196 => ?_)
            have ha196 : M196 102 16 = nI (i + 1) := by rw [e196, va_up_self, pk_us]
            have hf196 : M196 102 17 = -9 := by rw [e196, va_up_self, pk_un (by decide)]; exact hf
            have hn196 : M196 102 15 = nI n := by rw [e196, va_up_self, pk_un (by decide)]; exact hn
            have ht196 : ∀ j, j < n → M196 111 j = nI (t j) := by rw [e196, va_up_ne _ _ (by decide)]; exact ht
            have ho196 : ∀ q, q ≠ 102 → M196 q = M q := fun q hq => by rw [e196, va_up_ne _ _ hq]
            have hk196 : ∀ q, q ≠ 16 → q ≠ 17 → M196 102 q = M 102 q := fun q h1 h2 => by rw [e196, va_up_self, pk_un h1]
            refine ro_aload_n dX6_readPart_199 rfl rfl ?_
            refine gf_X6_readRain  in_X6_readPart_X6 lk_X6_readPart_31 dX6_readPart_200 ?_
            refine ro_aload_n dX6_readPart_203 rfl rfl ?_
            refine gf_X6_readRains  in_X6_readPart_X6 lk_X6_readPart_78 dX6_readPart_204 ?_
            rw [show M196 102 13 = nI (ln_r (ps_l p)) from (hk196 13 (by decide) (by decide)).trans hD.2.2.1]
            refine ro_aload_n dX6_readPart_207 rfl rfl ?_
            refine ro_bipush (v := 9) dX6_readPart_208 (by decide) ?_
            refine ro_callV1Q ok_X6_figureUpTo (cr_fig (lim := 10) (flt := -9) (i := i + 1) hf196 ha196 hn196 ht196 h255 h64 (by omega) (by omega) (by omega)) ce_X6 rfl rfl gX6_readPart_X6_figureUpTo (Nat.le_of_ble_eq_true rfl) (Nat.le_of_ble_eq_true rfl) dX6_readPart_210 (fun v210 M210 L210 q210 => ?_)
            obtain ⟨r210, j210, f210, rfl, e210, fg210, rfl⟩ := q210
            have ha210 : M210 102 16 = nI j210 := by rw [e210, va_up_self, pk_un (by decide), pk_us]
            have hf210 : M210 102 17 = f210 := by rw [e210, va_up_self, pk_us]
            have hn210 : M210 102 15 = nI n := by rw [e210, va_up_self, pk_un (by decide), pk_un (by decide)]; exact hn196
            have ht210 : ∀ j, j < n → M210 111 j = nI (t j) := by rw [e210, va_up_ne _ _ (by decide)]; exact ht196
            have ho210 : ∀ q, q ≠ 102 → M210 q = M196 q := fun q hq => by rw [e210, va_up_ne _ _ hq]
            have hk210 : ∀ q, q ≠ 16 → q ≠ 17 → M210 102 q = M196 102 q := fun q h1 h2 => by rw [e210, va_up_self, pk_un h2, pk_un h1]
            have hj210 : j210 ≤ i + 1 + 1 := by rcases fg210 with z | z <;> omega
            refine ro_as ar_110 rfl (by omega) dX6_readPart_213 (fun M213 e213 => ?_)
            have ha213 : M213 102 16 = nI j210 := by rw [e213, va_up_ne _ _ (by decide)]; exact ha210
            have hf213 : M213 102 17 = f210 := by rw [e213, va_up_ne _ _ (by decide)]; exact hf210
            have hn213 : M213 102 15 = nI n := by rw [e213, va_up_ne _ _ (by decide)]; exact hn210
            have ht213 : ∀ j, j < n → M213 111 j = nI (t j) := by rw [e213, va_up_ne _ _ (by decide)]; exact ht210
            have hk213 : M213 102 = M210 102 := by rw [e213, va_up_ne _ _ (by decide)]
            refine ro_aload_n dX6_readPart_214 rfl rfl ?_
            refine ro_dup dX6_readPart_215 rfl ?_
            refine gf_X6_readRains  in_X6_readPart_X6 lk_X6_readPart_78 dX6_readPart_216 ?_
            rw [show M213 102 13 = nI (ln_r (ps_l p)) from by rw [hk213, hk210 13 (by decide) (by decide), hk196 13 (by decide) (by decide)]; exact hD.2.2.1]
            refine ro_iconst (v := 1) dX6_readPart_219 (by decide) ?_
            refine ro_iadd dX6_readPart_220 ?_
            rw [nI_1]
            refine pf_X6_readRains  in_X6_readPart_X6 lk_X6_readPart_78  dX6_readPart_221 (fun M221 e221 => ?_)
            refine ro_goto 235 dX6_readPart_224 (by decide) ?_
            refine ro_vret rfl dX6_readPart_235 ?_
            obtain ⟨s1, w1⟩ := fig_s h64 (by decide) (by decide) rfl hS1 fg210 (ps_cl_R rfl rfl)
            have hrow : M221 110 = upd (M 110) (ln_r (ps_l p)) r210 := by rw [e221, va_up_ne _ _ (by decide), e213, va_up_self, ho210 110 (by decide), ho196 110 (by decide)]
            have h102 : ∀ q, q ≠ 16 → q ≠ 17 → q ≠ 13 → M221 102 q = M 102 q := fun q a1 a2 a3 => by rw [e221, va_up_self, pk_un a3, hk213, hk210 q a1 a2, hk196 q a1 a2]
            have hoth : ∀ q, q ≠ 102 → q ≠ 110 → M221 q = M q := fun q a1 a2 => by rw [e221, va_up_ne _ _ a1, e213, va_up_ne _ _ a2, ho210 q a1, ho196 q a1]
            refine ⟨rfl, ⟨fun q a1 a2 a3 a4 a5 => hoth q a1 a5, fun q a1 a2 a3 a4 a5 => h102 q a4 a5 a3, fun k hk => by rw [hoth 107 (by decide) (by decide)]⟩, rfl, _, _, _, by rw [e221, va_up_self, pk_un (by decide)]; exact ha213, by rw [e221, va_up_self, pk_un (by decide)]; exact hf213, s1, fun z => ?_⟩
            obtain ⟨y1, y2, y3, y4⟩ := w1 z
            refine ⟨by omega, rfl, rfl, ⟨ln_addR_ok okp.1 b186 (Nat.le_of_lt_succ y2), Or.inl rfl⟩, ?_⟩
            obtain ⟨d1, d2, d3, d4, d5, d6⟩ := hD
            refine ⟨(h102 11 (by decide) (by decide) (by decide)).trans d1, (h102 12 (by decide) (by decide) (by decide)).trans d2, by rw [e221, va_up_self, pk_us]; rfl, by rw [hoth 108 (by decide) (by decide)]; exact d4, by rw [hoth 109 (by decide) (by decide)]; exact d5, ?_⟩
            rw [hrow, y1]
            exact row_add d6
      · replace b75 : t i = 83 := (nI_eq (b := 83) (by omega) (by decide)).mp b75
        refine ro_aload_n dX6_readPart_78 rfl rfl ?_
        refine gf_X6_readSayings  in_X6_readPart_X6 lk_X6_readPart_75 dX6_readPart_79 ?_
        rw [hD.2.1]
        refine ro_bipush (v := 8) dX6_readPart_82 (by decide) ?_
        refine ro_icmp_ge 175 dX6_readPart_84 (by decide) (fun b84 => ?_) (fun b84 => ?_)
        · rw [show (8 : Int32) = nI 8 from rfl, nI_leI (by omega) (by omega)] at b84
          refine ro_iload_n dX6_readPart_175 rfl rfl ?_
          refine ro_bipush (v := 82) dX6_readPart_176 (by decide) ?_
          refine ro_icmp_ne 227 dX6_readPart_178 (by decide) (fun b178 => ?_) (fun b178 => ?_)
          · replace b178 : ¬ t i = 82 := fun z => b178 (by rw [z]; rfl)
            refine ro_aload_n dX6_readPart_227 rfl rfl ?_
            refine ro_aload_n dX6_readPart_228 rfl rfl ?_
            refine gf_X6_at  in_X6_readPart_X6 lk_X6_readPart_69 dX6_readPart_229 ?_
            rw [ha]
            refine pf_X6_faultAt  in_X6_readPart_X6 lk_X6_readPart_66  dX6_readPart_232 (fun M232 e232 => ?_)
            refine ro_vret rfl dX6_readPart_235 ?_
            have hno : ¬ ps_opens (ps_l p) (t i) := by
              unfold ps_opens
              omega
            refine ⟨rfl, ⟨fun q a1 a2 a3 a4 a5 => by rw [e232, va_up_ne _ _ a1], fun q a1 a2 a3 a4 a5 => by rw [e232, va_up_self, pk_un a5], fun k hk => by rw [e232, va_up_ne _ _ (by decide)]⟩, rfl, i, nI i, p, by rw [e232, va_up_self, pk_un (by decide)]; exact ha, by rw [e232, va_up_self, pk_us], Or.inr ⟨i, by omega, rfl, by rw [hR, ps_no hi ((pstep_o hb hp).2 hno)]⟩, fun z => absurd z (nI_ne9 (by omega))⟩
          · replace b178 : t i = 82 := (nI_eq (b := 82) (by omega) (by decide)).mp b178
            refine ro_aload_n dX6_readPart_181 rfl rfl ?_
            refine gf_X6_readRains  in_X6_readPart_X6 lk_X6_readPart_78 dX6_readPart_182 ?_
            rw [hD.2.2.1]
            refine ro_iconst (v := 4) dX6_readPart_185 (by decide) ?_
            refine ro_icmp_ge 227 dX6_readPart_186 (by decide) (fun b186 => ?_) (fun b186 => ?_)
            · rw [show (4 : Int32) = nI 4 from rfl, nI_leI (by omega) (by omega)] at b186
              refine ro_aload_n dX6_readPart_227 rfl rfl ?_
              refine ro_aload_n dX6_readPart_228 rfl rfl ?_
              refine gf_X6_at  in_X6_readPart_X6 lk_X6_readPart_69 dX6_readPart_229 ?_
              rw [ha]
              refine pf_X6_faultAt  in_X6_readPart_X6 lk_X6_readPart_66  dX6_readPart_232 (fun M232 e232 => ?_)
              refine ro_vret rfl dX6_readPart_235 ?_
              have hno : ¬ ps_opens (ps_l p) (t i) := by
                unfold ps_opens
                omega
              refine ⟨rfl, ⟨fun q a1 a2 a3 a4 a5 => by rw [e232, va_up_ne _ _ a1], fun q a1 a2 a3 a4 a5 => by rw [e232, va_up_self, pk_un a5], fun k hk => by rw [e232, va_up_ne _ _ (by decide)]⟩, rfl, i, nI i, p, by rw [e232, va_up_self, pk_un (by decide)]; exact ha, by rw [e232, va_up_self, pk_us], Or.inr ⟨i, by omega, rfl, by rw [hR, ps_no hi ((pstep_o hb hp).2 hno)]⟩, fun z => absurd z (nI_ne9 (by omega))⟩
            · rw [show (4 : Int32) = nI 4 from rfl, nI_leI (by omega) (by omega), Nat.not_le] at b186
              have hop : ps_opens (ps_l p) (t i) := Or.inr (Or.inr ⟨b178, b186⟩)
              have hS1 : SCN t n R (i + 1) (-9) (true, 82, 0, ps_f p, ps_l p) := Or.inl ⟨rfl, by rw [hR, ps_go hi ((pstep_o hb hp).1 hop), b178], by omega⟩
              refine ro_aload_n dX6_readPart_189 rfl rfl ?_
              refine ro_dup dX6_readPart_190 rfl ?_
              refine gf_X6_at  in_X6_readPart_X6 lk_X6_readPart_69 dX6_readPart_191 ?_
              rw [ha]
              refine ro_iconst (v := 1) dX6_readPart_194 (by decide) ?_
              refine ro_iadd dX6_readPart_195 ?_
              rw [nI_1]
              refine pf_X6_at  in_X6_readPart_X6 lk_X6_readPart_69  dX6_readPart_196 (fun M196 e196 => ?_)
              have ha196 : M196 102 16 = nI (i + 1) := by rw [e196, va_up_self, pk_us]
              have hf196 : M196 102 17 = -9 := by rw [e196, va_up_self, pk_un (by decide)]; exact hf
              have hn196 : M196 102 15 = nI n := by rw [e196, va_up_self, pk_un (by decide)]; exact hn
              have ht196 : ∀ j, j < n → M196 111 j = nI (t j) := by rw [e196, va_up_ne _ _ (by decide)]; exact ht
              have ho196 : ∀ q, q ≠ 102 → M196 q = M q := fun q hq => by rw [e196, va_up_ne _ _ hq]
              have hk196 : ∀ q, q ≠ 16 → q ≠ 17 → M196 102 q = M 102 q := fun q h1 h2 => by rw [e196, va_up_self, pk_un h1]
              refine ro_aload_n dX6_readPart_199 rfl rfl ?_
              refine gf_X6_readRain  in_X6_readPart_X6 lk_X6_readPart_31 dX6_readPart_200 ?_
              refine ro_aload_n dX6_readPart_203 rfl rfl ?_
              refine gf_X6_readRains  in_X6_readPart_X6 lk_X6_readPart_78 dX6_readPart_204 ?_
              rw [show M196 102 13 = nI (ln_r (ps_l p)) from (hk196 13 (by decide) (by decide)).trans hD.2.2.1]
              refine ro_aload_n dX6_readPart_207 rfl rfl ?_
              refine ro_bipush (v := 9) dX6_readPart_208 (by decide) ?_
              refine ro_callV1Q ok_X6_figureUpTo (cr_fig (lim := 10) (flt := -9) (i := i + 1) hf196 ha196 hn196 ht196 h255 h64 (by omega) (by omega) (by omega)) ce_X6 rfl rfl gX6_readPart_X6_figureUpTo (Nat.le_of_ble_eq_true rfl) (Nat.le_of_ble_eq_true rfl) dX6_readPart_210 (fun v210 M210 L210 q210 => ?_)
              obtain ⟨r210, j210, f210, rfl, e210, fg210, rfl⟩ := q210
              have ha210 : M210 102 16 = nI j210 := by rw [e210, va_up_self, pk_un (by decide), pk_us]
              have hf210 : M210 102 17 = f210 := by rw [e210, va_up_self, pk_us]
              have hn210 : M210 102 15 = nI n := by rw [e210, va_up_self, pk_un (by decide), pk_un (by decide)]; exact hn196
              have ht210 : ∀ j, j < n → M210 111 j = nI (t j) := by rw [e210, va_up_ne _ _ (by decide)]; exact ht196
              have ho210 : ∀ q, q ≠ 102 → M210 q = M196 q := fun q hq => by rw [e210, va_up_ne _ _ hq]
              have hk210 : ∀ q, q ≠ 16 → q ≠ 17 → M210 102 q = M196 102 q := fun q h1 h2 => by rw [e210, va_up_self, pk_un h2, pk_un h1]
              have hj210 : j210 ≤ i + 1 + 1 := by rcases fg210 with z | z <;> omega
              refine ro_as ar_110 rfl (by omega) dX6_readPart_213 (fun M213 e213 => ?_)
              have ha213 : M213 102 16 = nI j210 := by rw [e213, va_up_ne _ _ (by decide)]; exact ha210
              have hf213 : M213 102 17 = f210 := by rw [e213, va_up_ne _ _ (by decide)]; exact hf210
              have hn213 : M213 102 15 = nI n := by rw [e213, va_up_ne _ _ (by decide)]; exact hn210
              have ht213 : ∀ j, j < n → M213 111 j = nI (t j) := by rw [e213, va_up_ne _ _ (by decide)]; exact ht210
              have hk213 : M213 102 = M210 102 := by rw [e213, va_up_ne _ _ (by decide)]
              refine ro_aload_n dX6_readPart_214 rfl rfl ?_
              refine ro_dup dX6_readPart_215 rfl ?_
              refine gf_X6_readRains  in_X6_readPart_X6 lk_X6_readPart_78 dX6_readPart_216 ?_
              rw [show M213 102 13 = nI (ln_r (ps_l p)) from by rw [hk213, hk210 13 (by decide) (by decide), hk196 13 (by decide) (by decide)]; exact hD.2.2.1]
              refine ro_iconst (v := 1) dX6_readPart_219 (by decide) ?_
              refine ro_iadd dX6_readPart_220 ?_
              rw [nI_1]
              refine pf_X6_readRains  in_X6_readPart_X6 lk_X6_readPart_78  dX6_readPart_221 (fun M221 e221 => ?_)
              refine ro_goto 235 dX6_readPart_224 (by decide) ?_
              refine ro_vret rfl dX6_readPart_235 ?_
              obtain ⟨s1, w1⟩ := fig_s h64 (by decide) (by decide) rfl hS1 fg210 (ps_cl_R rfl rfl)
              have hrow : M221 110 = upd (M 110) (ln_r (ps_l p)) r210 := by rw [e221, va_up_ne _ _ (by decide), e213, va_up_self, ho210 110 (by decide), ho196 110 (by decide)]
              have h102 : ∀ q, q ≠ 16 → q ≠ 17 → q ≠ 13 → M221 102 q = M 102 q := fun q a1 a2 a3 => by rw [e221, va_up_self, pk_un a3, hk213, hk210 q a1 a2, hk196 q a1 a2]
              have hoth : ∀ q, q ≠ 102 → q ≠ 110 → M221 q = M q := fun q a1 a2 => by rw [e221, va_up_ne _ _ a1, e213, va_up_ne _ _ a2, ho210 q a1, ho196 q a1]
              refine ⟨rfl, ⟨fun q a1 a2 a3 a4 a5 => hoth q a1 a5, fun q a1 a2 a3 a4 a5 => h102 q a4 a5 a3, fun k hk => by rw [hoth 107 (by decide) (by decide)]⟩, rfl, _, _, _, by rw [e221, va_up_self, pk_un (by decide)]; exact ha213, by rw [e221, va_up_self, pk_un (by decide)]; exact hf213, s1, fun z => ?_⟩
              obtain ⟨y1, y2, y3, y4⟩ := w1 z
              refine ⟨by omega, rfl, rfl, ⟨ln_addR_ok okp.1 b186 (Nat.le_of_lt_succ y2), Or.inl rfl⟩, ?_⟩
              obtain ⟨d1, d2, d3, d4, d5, d6⟩ := hD
              refine ⟨(h102 11 (by decide) (by decide) (by decide)).trans d1, (h102 12 (by decide) (by decide) (by decide)).trans d2, by rw [e221, va_up_self, pk_us]; rfl, by rw [hoth 108 (by decide) (by decide)]; exact d4, by rw [hoth 109 (by decide) (by decide)]; exact d5, ?_⟩
              rw [hrow, y1]
              exact row_add d6
        · rw [show (8 : Int32) = nI 8 from rfl, nI_leI (by omega) (by omega), Nat.not_le] at b84
          refine ro_aload_n dX6_readPart_87 rfl rfl ?_
          refine gf_X6_readHouses  in_X6_readPart_X6 lk_X6_readPart_72 dX6_readPart_88 ?_
          rw [hD.1]
          refine ro_if_le 175 dX6_readPart_91 (by decide) (fun b91 => ?_) (fun b91 => ?_)
          · rw [nI_le0 (by omega)] at b91
            refine ro_iload_n dX6_readPart_175 rfl rfl ?_
            refine ro_bipush (v := 82) dX6_readPart_176 (by decide) ?_
            refine ro_icmp_ne 227 dX6_readPart_178 (by decide) (fun b178 => ?_) (fun b178 => ?_)
            · replace b178 : ¬ t i = 82 := fun z => b178 (by rw [z]; rfl)
              refine ro_aload_n dX6_readPart_227 rfl rfl ?_
              refine ro_aload_n dX6_readPart_228 rfl rfl ?_
              refine gf_X6_at  in_X6_readPart_X6 lk_X6_readPart_69 dX6_readPart_229 ?_
              rw [ha]
              refine pf_X6_faultAt  in_X6_readPart_X6 lk_X6_readPart_66  dX6_readPart_232 (fun M232 e232 => ?_)
              refine ro_vret rfl dX6_readPart_235 ?_
              have hno : ¬ ps_opens (ps_l p) (t i) := by
                unfold ps_opens
                omega
              refine ⟨rfl, ⟨fun q a1 a2 a3 a4 a5 => by rw [e232, va_up_ne _ _ a1], fun q a1 a2 a3 a4 a5 => by rw [e232, va_up_self, pk_un a5], fun k hk => by rw [e232, va_up_ne _ _ (by decide)]⟩, rfl, i, nI i, p, by rw [e232, va_up_self, pk_un (by decide)]; exact ha, by rw [e232, va_up_self, pk_us], Or.inr ⟨i, by omega, rfl, by rw [hR, ps_no hi ((pstep_o hb hp).2 hno)]⟩, fun z => absurd z (nI_ne9 (by omega))⟩
            · replace b178 : t i = 82 := (nI_eq (b := 82) (by omega) (by decide)).mp b178
              refine ro_aload_n dX6_readPart_181 rfl rfl ?_
              refine gf_X6_readRains  in_X6_readPart_X6 lk_X6_readPart_78 dX6_readPart_182 ?_
              rw [hD.2.2.1]
              refine ro_iconst (v := 4) dX6_readPart_185 (by decide) ?_
              refine ro_icmp_ge 227 dX6_readPart_186 (by decide) (fun b186 => ?_) (fun b186 => ?_)
              · rw [show (4 : Int32) = nI 4 from rfl, nI_leI (by omega) (by omega)] at b186
                refine ro_aload_n dX6_readPart_227 rfl rfl ?_
                refine ro_aload_n dX6_readPart_228 rfl rfl ?_
                refine gf_X6_at  in_X6_readPart_X6 lk_X6_readPart_69 dX6_readPart_229 ?_
                rw [ha]
                refine pf_X6_faultAt  in_X6_readPart_X6 lk_X6_readPart_66  dX6_readPart_232 (fun M232 e232 => ?_)
                refine ro_vret rfl dX6_readPart_235 ?_
                have hno : ¬ ps_opens (ps_l p) (t i) := by
                  unfold ps_opens
                  omega
                refine ⟨rfl, ⟨fun q a1 a2 a3 a4 a5 => by rw [e232, va_up_ne _ _ a1], fun q a1 a2 a3 a4 a5 => by rw [e232, va_up_self, pk_un a5], fun k hk => by rw [e232, va_up_ne _ _ (by decide)]⟩, rfl, i, nI i, p, by rw [e232, va_up_self, pk_un (by decide)]; exact ha, by rw [e232, va_up_self, pk_us], Or.inr ⟨i, by omega, rfl, by rw [hR, ps_no hi ((pstep_o hb hp).2 hno)]⟩, fun z => absurd z (nI_ne9 (by omega))⟩
              · rw [show (4 : Int32) = nI 4 from rfl, nI_leI (by omega) (by omega), Nat.not_le] at b186
                have hop : ps_opens (ps_l p) (t i) := Or.inr (Or.inr ⟨b178, b186⟩)
                have hS1 : SCN t n R (i + 1) (-9) (true, 82, 0, ps_f p, ps_l p) := Or.inl ⟨rfl, by rw [hR, ps_go hi ((pstep_o hb hp).1 hop), b178], by omega⟩
                refine ro_aload_n dX6_readPart_189 rfl rfl ?_
                refine ro_dup dX6_readPart_190 rfl ?_
                refine gf_X6_at  in_X6_readPart_X6 lk_X6_readPart_69 dX6_readPart_191 ?_
                rw [ha]
                refine ro_iconst (v := 1) dX6_readPart_194 (by decide) ?_
                refine ro_iadd dX6_readPart_195 ?_
                rw [nI_1]
                refine pf_X6_at  in_X6_readPart_X6 lk_X6_readPart_69  dX6_readPart_196 (fun M196 e196 => ?_)
                have ha196 : M196 102 16 = nI (i + 1) := by rw [e196, va_up_self, pk_us]
                have hf196 : M196 102 17 = -9 := by rw [e196, va_up_self, pk_un (by decide)]; exact hf
                have hn196 : M196 102 15 = nI n := by rw [e196, va_up_self, pk_un (by decide)]; exact hn
                have ht196 : ∀ j, j < n → M196 111 j = nI (t j) := by rw [e196, va_up_ne _ _ (by decide)]; exact ht
                have ho196 : ∀ q, q ≠ 102 → M196 q = M q := fun q hq => by rw [e196, va_up_ne _ _ hq]
                have hk196 : ∀ q, q ≠ 16 → q ≠ 17 → M196 102 q = M 102 q := fun q h1 h2 => by rw [e196, va_up_self, pk_un h1]
                refine ro_aload_n dX6_readPart_199 rfl rfl ?_
                refine gf_X6_readRain  in_X6_readPart_X6 lk_X6_readPart_31 dX6_readPart_200 ?_
                refine ro_aload_n dX6_readPart_203 rfl rfl ?_
                refine gf_X6_readRains  in_X6_readPart_X6 lk_X6_readPart_78 dX6_readPart_204 ?_
                rw [show M196 102 13 = nI (ln_r (ps_l p)) from (hk196 13 (by decide) (by decide)).trans hD.2.2.1]
                refine ro_aload_n dX6_readPart_207 rfl rfl ?_
                refine ro_bipush (v := 9) dX6_readPart_208 (by decide) ?_
                refine ro_callV1Q ok_X6_figureUpTo (cr_fig (lim := 10) (flt := -9) (i := i + 1) hf196 ha196 hn196 ht196 h255 h64 (by omega) (by omega) (by omega)) ce_X6 rfl rfl gX6_readPart_X6_figureUpTo (Nat.le_of_ble_eq_true rfl) (Nat.le_of_ble_eq_true rfl) dX6_readPart_210 (fun v210 M210 L210 q210 => ?_)
                obtain ⟨r210, j210, f210, rfl, e210, fg210, rfl⟩ := q210
                have ha210 : M210 102 16 = nI j210 := by rw [e210, va_up_self, pk_un (by decide), pk_us]
                have hf210 : M210 102 17 = f210 := by rw [e210, va_up_self, pk_us]
                have hn210 : M210 102 15 = nI n := by rw [e210, va_up_self, pk_un (by decide), pk_un (by decide)]; exact hn196
                have ht210 : ∀ j, j < n → M210 111 j = nI (t j) := by rw [e210, va_up_ne _ _ (by decide)]; exact ht196
                have ho210 : ∀ q, q ≠ 102 → M210 q = M196 q := fun q hq => by rw [e210, va_up_ne _ _ hq]
                have hk210 : ∀ q, q ≠ 16 → q ≠ 17 → M210 102 q = M196 102 q := fun q h1 h2 => by rw [e210, va_up_self, pk_un h2, pk_un h1]
                have hj210 : j210 ≤ i + 1 + 1 := by rcases fg210 with z | z <;> omega
                refine ro_as ar_110 rfl (by omega) dX6_readPart_213 (fun M213 e213 => ?_)
                have ha213 : M213 102 16 = nI j210 := by rw [e213, va_up_ne _ _ (by decide)]; exact ha210
                have hf213 : M213 102 17 = f210 := by rw [e213, va_up_ne _ _ (by decide)]; exact hf210
                have hn213 : M213 102 15 = nI n := by rw [e213, va_up_ne _ _ (by decide)]; exact hn210
                have ht213 : ∀ j, j < n → M213 111 j = nI (t j) := by rw [e213, va_up_ne _ _ (by decide)]; exact ht210
                have hk213 : M213 102 = M210 102 := by rw [e213, va_up_ne _ _ (by decide)]
                refine ro_aload_n dX6_readPart_214 rfl rfl ?_
                refine ro_dup dX6_readPart_215 rfl ?_
                refine gf_X6_readRains  in_X6_readPart_X6 lk_X6_readPart_78 dX6_readPart_216 ?_
                rw [show M213 102 13 = nI (ln_r (ps_l p)) from by rw [hk213, hk210 13 (by decide) (by decide), hk196 13 (by decide) (by decide)]; exact hD.2.2.1]
                refine ro_iconst (v := 1) dX6_readPart_219 (by decide) ?_
                refine ro_iadd dX6_readPart_220 ?_
                rw [nI_1]
                refine pf_X6_readRains  in_X6_readPart_X6 lk_X6_readPart_78  dX6_readPart_221 (fun M221 e221 => ?_)
                refine ro_goto 235 dX6_readPart_224 (by decide) ?_
                refine ro_vret rfl dX6_readPart_235 ?_
                obtain ⟨s1, w1⟩ := fig_s h64 (by decide) (by decide) rfl hS1 fg210 (ps_cl_R rfl rfl)
                have hrow : M221 110 = upd (M 110) (ln_r (ps_l p)) r210 := by rw [e221, va_up_ne _ _ (by decide), e213, va_up_self, ho210 110 (by decide), ho196 110 (by decide)]
                have h102 : ∀ q, q ≠ 16 → q ≠ 17 → q ≠ 13 → M221 102 q = M 102 q := fun q a1 a2 a3 => by rw [e221, va_up_self, pk_un a3, hk213, hk210 q a1 a2, hk196 q a1 a2]
                have hoth : ∀ q, q ≠ 102 → q ≠ 110 → M221 q = M q := fun q a1 a2 => by rw [e221, va_up_ne _ _ a1, e213, va_up_ne _ _ a2, ho210 q a1, ho196 q a1]
                refine ⟨rfl, ⟨fun q a1 a2 a3 a4 a5 => hoth q a1 a5, fun q a1 a2 a3 a4 a5 => h102 q a4 a5 a3, fun k hk => by rw [hoth 107 (by decide) (by decide)]⟩, rfl, _, _, _, by rw [e221, va_up_self, pk_un (by decide)]; exact ha213, by rw [e221, va_up_self, pk_un (by decide)]; exact hf213, s1, fun z => ?_⟩
                obtain ⟨y1, y2, y3, y4⟩ := w1 z
                refine ⟨by omega, rfl, rfl, ⟨ln_addR_ok okp.1 b186 (Nat.le_of_lt_succ y2), Or.inl rfl⟩, ?_⟩
                obtain ⟨d1, d2, d3, d4, d5, d6⟩ := hD
                refine ⟨(h102 11 (by decide) (by decide) (by decide)).trans d1, (h102 12 (by decide) (by decide) (by decide)).trans d2, by rw [e221, va_up_self, pk_us]; rfl, by rw [hoth 108 (by decide) (by decide)]; exact d4, by rw [hoth 109 (by decide) (by decide)]; exact d5, ?_⟩
                rw [hrow, y1]
                exact row_add d6
          · rw [nI_le0 (by omega)] at b91
            have hop : ps_opens (ps_l p) (t i) := Or.inr (Or.inl ⟨b75, by omega, b84⟩)
            have hS1 : SCN t n R (i + 1) (-9) (true, 83, 0, ps_f p, ps_l p) := Or.inl ⟨rfl, by rw [hR, ps_go hi ((pstep_o hb hp).1 hop), b75], by omega⟩
            refine ro_aload_n dX6_readPart_94 rfl rfl ?_
            refine ro_dup dX6_readPart_95 rfl ?_
            refine gf_X6_at  in_X6_readPart_X6 lk_X6_readPart_69 dX6_readPart_96 ?_
            rw [ha]
            refine ro_iconst (v := 1) dX6_readPart_99 (by decide) ?_
            refine ro_iadd dX6_readPart_100 ?_
            rw [nI_1]
            refine pf_X6_at  in_X6_readPart_X6 lk_X6_readPart_69  dX6_readPart_101 (fun M101 e101 => ?_)
            have ha101 : M101 102 16 = nI (i + 1) := by rw [e101, va_up_self, pk_us]
            have hf101 : M101 102 17 = -9 := by rw [e101, va_up_self, pk_un (by decide)]; exact hf
            have hn101 : M101 102 15 = nI n := by rw [e101, va_up_self, pk_un (by decide)]; exact hn
            have ht101 : ∀ j, j < n → M101 111 j = nI (t j) := by rw [e101, va_up_ne _ _ (by decide)]; exact ht
            have ho101 : ∀ q, q ≠ 102 → M101 q = M q := fun q hq => by rw [e101, va_up_ne _ _ hq]
            have hk101 : ∀ q, q ≠ 16 → q ≠ 17 → M101 102 q = M 102 q := fun q h1 h2 => by rw [e101, va_up_self, pk_un h1]
            refine ro_aload_n dX6_readPart_104 rfl rfl ?_
            refine gf_X6_readSaying  in_X6_readPart_X6 lk_X6_readPart_28 dX6_readPart_105 ?_
            refine ro_iconst (v := 3) dX6_readPart_108 (by decide) ?_
            refine ro_aload_n dX6_readPart_109 rfl rfl ?_
            refine gf_X6_readSayings  in_X6_readPart_X6 lk_X6_readPart_75 dX6_readPart_110 ?_
            rw [show M101 102 12 = nI (ln_s (ps_l p)) from (hk101 12 (by decide) (by decide)).trans hD.2.1]
            refine ro_imul dX6_readPart_113 ?_
            refine ro_top (show _ = nI (3 * ln_s (ps_l p)) from pk_mul 3 _) ?_
            refine ro_aload_n dX6_readPart_114 rfl rfl ?_
            refine ro_aload_n dX6_readPart_115 rfl rfl ?_
            refine gf_X6_readHouses  in_X6_readPart_X6 lk_X6_readPart_72 dX6_readPart_116 ?_
            rw [show M101 102 11 = nI (ln_n (ps_l p)) from (hk101 11 (by decide) (by decide)).trans hD.1]
            refine ro_iconst (v := 1) dX6_readPart_119 (by decide) ?_
            refine ro_isub dX6_readPart_120 ?_
            refine ro_top (show _ = nI (ln_n (ps_l p) - 1) from pk_sub (b := 1) (by omega)) ?_
            refine ro_callV1Q ok_X6_figureUpTo (cr_fig (lim := ln_n (ps_l p)) (flt := -9) (i := i + 1) hf101 ha101 hn101 ht101 h255 h64 (by omega) (by omega) (by omega)) ce_X6 rfl rfl gX6_readPart_X6_figureUpTo (Nat.le_of_ble_eq_true rfl) (Nat.le_of_ble_eq_true rfl) dX6_readPart_121 (fun v121 M121 L121 q121 => ?_)
            obtain ⟨r121, j121, f121, rfl, e121, fg121, rfl⟩ := q121
            have ha121 : M121 102 16 = nI j121 := by rw [e121, va_up_self, pk_un (by decide), pk_us]
            have hf121 : M121 102 17 = f121 := by rw [e121, va_up_self, pk_us]
            have hn121 : M121 102 15 = nI n := by rw [e121, va_up_self, pk_un (by decide), pk_un (by decide)]; exact hn101
            have ht121 : ∀ j, j < n → M121 111 j = nI (t j) := by rw [e121, va_up_ne _ _ (by decide)]; exact ht101
            have ho121 : ∀ q, q ≠ 102 → M121 q = M101 q := fun q hq => by rw [e121, va_up_ne _ _ hq]
            have hk121 : ∀ q, q ≠ 16 → q ≠ 17 → M121 102 q = M101 102 q := fun q h1 h2 => by rw [e121, va_up_self, pk_un h2, pk_un h1]
            have hj121 : j121 ≤ i + 1 + 1 := by rcases fg121 with z | z <;> omega
            refine ro_as ar_109 rfl (by omega) dX6_readPart_124 (fun M124 e124 => ?_)
            have ha124 : M124 102 16 = nI j121 := by rw [e124, va_up_ne _ _ (by decide)]; exact ha121
            have hf124 : M124 102 17 = f121 := by rw [e124, va_up_ne _ _ (by decide)]; exact hf121
            have hn124 : M124 102 15 = nI n := by rw [e124, va_up_ne _ _ (by decide)]; exact hn121
            have ht124 : ∀ j, j < n → M124 111 j = nI (t j) := by rw [e124, va_up_ne _ _ (by decide)]; exact ht121
            have hk124 : M124 102 = M121 102 := by rw [e124, va_up_ne _ _ (by decide)]
            refine ro_aload_n dX6_readPart_125 rfl rfl ?_
            refine gf_X6_readSaying  in_X6_readPart_X6 lk_X6_readPart_28 dX6_readPart_126 ?_
            refine ro_iconst (v := 3) dX6_readPart_129 (by decide) ?_
            refine ro_aload_n dX6_readPart_130 rfl rfl ?_
            refine gf_X6_readSayings  in_X6_readPart_X6 lk_X6_readPart_75 dX6_readPart_131 ?_
            rw [show M124 102 12 = nI (ln_s (ps_l p)) from by rw [hk124, hk121 12 (by decide) (by decide), hk101 12 (by decide) (by decide)]; exact hD.2.1]
            refine ro_imul dX6_readPart_134 ?_
            refine ro_top (show _ = nI (3 * ln_s (ps_l p)) from pk_mul 3 _) ?_
            refine ro_iconst (v := 1) dX6_readPart_135 (by decide) ?_
            refine ro_iadd dX6_readPart_136 ?_
            refine ro_top (show _ = nI (3 * ln_s (ps_l p) + 1) from nI_add (3 * ln_s (ps_l p)) (1)) ?_
            refine ro_aload_n dX6_readPart_137 rfl rfl ?_
            refine ro_iconst (v := 5) dX6_readPart_138 (by decide) ?_
            refine ro_callV1Q ok_X6_figureUpTo (cr_fig (lim := 6) (flt := f121) (i := j121) hf124 ha124 hn124 ht124 h255 h64 (by omega) (by omega) (by omega)) ce_X6 rfl rfl gX6_readPart_X6_figureUpTo (Nat.le_of_ble_eq_true rfl) (Nat.le_of_ble_eq_true rfl) dX6_readPart_139 (fun v139 M139 L139 q139 => ?_)
            obtain ⟨r139, j139, f139, rfl, e139, fg139, rfl⟩ := q139
            have ha139 : M139 102 16 = nI j139 := by rw [e139, va_up_self, pk_un (by decide), pk_us]
            have hf139 : M139 102 17 = f139 := by rw [e139, va_up_self, pk_us]
            have hn139 : M139 102 15 = nI n := by rw [e139, va_up_self, pk_un (by decide), pk_un (by decide)]; exact hn124
            have ht139 : ∀ j, j < n → M139 111 j = nI (t j) := by rw [e139, va_up_ne _ _ (by decide)]; exact ht124
            have ho139 : ∀ q, q ≠ 102 → M139 q = M124 q := fun q hq => by rw [e139, va_up_ne _ _ hq]
            have hk139 : ∀ q, q ≠ 16 → q ≠ 17 → M139 102 q = M124 102 q := fun q h1 h2 => by rw [e139, va_up_self, pk_un h2, pk_un h1]
            have hj139 : j139 ≤ j121 + 1 := by rcases fg139 with z | z <;> omega
            refine ro_as ar_109 rfl (by omega) dX6_readPart_142 (fun M142 e142 => ?_)
            have ha142 : M142 102 16 = nI j139 := by rw [e142, va_up_ne _ _ (by decide)]; exact ha139
            have hf142 : M142 102 17 = f139 := by rw [e142, va_up_ne _ _ (by decide)]; exact hf139
            have hn142 : M142 102 15 = nI n := by rw [e142, va_up_ne _ _ (by decide)]; exact hn139
            have ht142 : ∀ j, j < n → M142 111 j = nI (t j) := by rw [e142, va_up_ne _ _ (by decide)]; exact ht139
            have hk142 : M142 102 = M139 102 := by rw [e142, va_up_ne _ _ (by decide)]
            refine ro_aload_n dX6_readPart_143 rfl rfl ?_
            refine gf_X6_readSaying  in_X6_readPart_X6 lk_X6_readPart_28 dX6_readPart_144 ?_
            refine ro_iconst (v := 3) dX6_readPart_147 (by decide) ?_
            refine ro_aload_n dX6_readPart_148 rfl rfl ?_
            refine gf_X6_readSayings  in_X6_readPart_X6 lk_X6_readPart_75 dX6_readPart_149 ?_
            rw [show M142 102 12 = nI (ln_s (ps_l p)) from by rw [hk142, hk139 12 (by decide) (by decide), hk124, hk121 12 (by decide) (by decide), hk101 12 (by decide) (by decide)]; exact hD.2.1]
            refine ro_imul dX6_readPart_152 ?_
            refine ro_top (show _ = nI (3 * ln_s (ps_l p)) from pk_mul 3 _) ?_
            refine ro_iconst (v := 2) dX6_readPart_153 (by decide) ?_
            refine ro_iadd dX6_readPart_154 ?_
            refine ro_top (show _ = nI (3 * ln_s (ps_l p) + 2) from nI_add (3 * ln_s (ps_l p)) (2)) ?_
            refine ro_aload_n dX6_readPart_155 rfl rfl ?_
            refine ro_bipush (v := 9) dX6_readPart_156 (by decide) ?_
            refine ro_callV1Q ok_X6_figureUpTo (cr_fig (lim := 10) (flt := f139) (i := j139) hf142 ha142 hn142 ht142 h255 h64 (by omega) (by omega) (by omega)) ce_X6 rfl rfl gX6_readPart_X6_figureUpTo (Nat.le_of_ble_eq_true rfl) (Nat.le_of_ble_eq_true rfl) dX6_readPart_158 (fun v158 M158 L158 q158 => ?_)
            obtain ⟨r158, j158, f158, rfl, e158, fg158, rfl⟩ := q158
            have ha158 : M158 102 16 = nI j158 := by rw [e158, va_up_self, pk_un (by decide), pk_us]
            have hf158 : M158 102 17 = f158 := by rw [e158, va_up_self, pk_us]
            have hn158 : M158 102 15 = nI n := by rw [e158, va_up_self, pk_un (by decide), pk_un (by decide)]; exact hn142
            have ht158 : ∀ j, j < n → M158 111 j = nI (t j) := by rw [e158, va_up_ne _ _ (by decide)]; exact ht142
            have ho158 : ∀ q, q ≠ 102 → M158 q = M142 q := fun q hq => by rw [e158, va_up_ne _ _ hq]
            have hk158 : ∀ q, q ≠ 16 → q ≠ 17 → M158 102 q = M142 102 q := fun q h1 h2 => by rw [e158, va_up_self, pk_un h2, pk_un h1]
            have hj158 : j158 ≤ j139 + 1 := by rcases fg158 with z | z <;> omega
            refine ro_as ar_109 rfl (by omega) dX6_readPart_161 (fun M161 e161 => ?_)
            have ha161 : M161 102 16 = nI j158 := by rw [e161, va_up_ne _ _ (by decide)]; exact ha158
            have hf161 : M161 102 17 = f158 := by rw [e161, va_up_ne _ _ (by decide)]; exact hf158
            have hn161 : M161 102 15 = nI n := by rw [e161, va_up_ne _ _ (by decide)]; exact hn158
            have ht161 : ∀ j, j < n → M161 111 j = nI (t j) := by rw [e161, va_up_ne _ _ (by decide)]; exact ht158
            have hk161 : M161 102 = M158 102 := by rw [e161, va_up_ne _ _ (by decide)]
            refine ro_aload_n dX6_readPart_162 rfl rfl ?_
            refine ro_dup dX6_readPart_163 rfl ?_
            refine gf_X6_readSayings  in_X6_readPart_X6 lk_X6_readPart_75 dX6_readPart_164 ?_
            rw [show M161 102 12 = nI (ln_s (ps_l p)) from by rw [hk161, hk158 12 (by decide) (by decide), hk142, hk139 12 (by decide) (by decide), hk124, hk121 12 (by decide) (by decide), hk101 12 (by decide) (by decide)]; exact hD.2.1]
            refine ro_iconst (v := 1) dX6_readPart_167 (by decide) ?_
            refine ro_iadd dX6_readPart_168 ?_
            rw [nI_1]
            refine pf_X6_readSayings  in_X6_readPart_X6 lk_X6_readPart_75  dX6_readPart_169 (fun M169 e169 => ?_)
            refine ro_goto 235 dX6_readPart_172 (by decide) ?_
            refine ro_vret rfl dX6_readPart_235 ?_
            obtain ⟨s1, w1⟩ := fig_s h64 (by decide) (by decide) rfl hS1 fg121 (ps_cl_N (by decide) (by decide) (by decide))
            obtain ⟨s2, w2⟩ := fig_s h64 (by decide) (by decide) rfl s1 fg139 (ps_cl_N (by decide) (by decide) (by decide))
            obtain ⟨s3, w3⟩ := fig_s h64 (by decide) (by decide) rfl s2 fg158 (ps_cl_S rfl rfl)
            have hrow : M169 109 = upd (upd (upd (M 109) (3 * ln_s (ps_l p)) r121) (3 * ln_s (ps_l p) + 1) r139) (3 * ln_s (ps_l p) + 2) r158 := by rw [e169, va_up_ne _ _ (by decide), e161, va_up_self, ho158 109 (by decide), e142, va_up_self, ho139 109 (by decide), e124, va_up_self, ho121 109 (by decide), ho101 109 (by decide)]
            have h102 : ∀ q, q ≠ 16 → q ≠ 17 → q ≠ 12 → M169 102 q = M 102 q := fun q a1 a2 a3 => by rw [e169, va_up_self, pk_un a3, hk161, hk158 q a1 a2, hk142, hk139 q a1 a2, hk124, hk121 q a1 a2, hk101 q a1 a2]
            have hoth : ∀ q, q ≠ 102 → q ≠ 109 → M169 q = M q := fun q a1 a2 => by rw [e169, va_up_ne _ _ a1, e161, va_up_ne _ _ a2, ho158 q a1, e142, va_up_ne _ _ a2, ho139 q a1, e124, va_up_ne _ _ a2, ho121 q a1, ho101 q a1]
            refine ⟨rfl, ⟨fun q a1 a2 a3 a4 a5 => hoth q a1 a4, fun q a1 a2 a3 a4 a5 => h102 q a4 a5 a2, fun k hk => by rw [hoth 107 (by decide) (by decide)]⟩, rfl, _, _, _, by rw [e169, va_up_self, pk_un (by decide)]; exact ha161, by rw [e169, va_up_self, pk_un (by decide)]; exact hf161, s3, fun z => ?_⟩
            obtain ⟨v1, v2, v3, v4⟩ := w3 z
            obtain ⟨x1, x2, x3, x4⟩ := w2 v3
            obtain ⟨y1, y2, y3, y4⟩ := w1 x3
            refine ⟨by omega, rfl, rfl, ⟨ln_addS_ok okp.1 b84 y2 x2 (Nat.le_of_lt_succ v2), Or.inl rfl⟩, ?_⟩
            obtain ⟨d1, d2, d3, d4, d5, d6⟩ := hD
            refine ⟨(h102 11 (by decide) (by decide) (by decide)).trans d1, by rw [e169, va_up_self, pk_us]; rfl, (h102 13 (by decide) (by decide) (by decide)).trans d3, by rw [hoth 108 (by decide) (by decide)]; exact d4, fun j hj => ?_, by rw [hoth 110 (by decide) (by decide)]; exact d6⟩
            have hj2 : j < ln_s (ps_l p) + 1 := hj
            show M169 109 (3 * j) = nI (va_up (ln_place (ps_l p)) (ln_s (ps_l p)) _ j) ∧ M169 109 (3 * j + 1) = nI (va_up (ln_thing (ps_l p)) (ln_s (ps_l p)) _ j) ∧ M169 109 (3 * j + 2) = nI (va_up (ln_loud (ps_l p)) (ln_s (ps_l p)) _ j)
            rw [hrow]
            by_cases e : j = ln_s (ps_l p)
            · subst e
              rw [va_up_self, va_up_self, va_up_self, pk_un (by omega), pk_un (by omega), pk_us, pk_un (by omega), pk_us, pk_us, v1, x1, y1]
              exact ⟨rfl, rfl, rfl⟩
            · rw [va_up_ne _ _ e, va_up_ne _ _ e, va_up_ne _ _ e, pk_un (by omega), pk_un (by omega), pk_un (by omega), pk_un (by omega), pk_un (by omega), pk_un (by omega), pk_un (by omega), pk_un (by omega), pk_un (by omega)]
              exact d5 j (by omega)
    · rw [show (5 : Int32) = nI 5 from rfl, nI_leI (by omega) (by omega), Nat.not_le] at b11
      have hop : ps_opens (ps_l p) (t i) := Or.inl ⟨b3, b11⟩
      have hS1 : SCN t n R (i + 1) (-9) (true, 72, 0, ps_f p, ps_l p) := Or.inl ⟨rfl, by rw [hR, ps_go hi ((pstep_o hb hp).1 hop), b3], by omega⟩
      refine ro_aload_n dX6_readPart_14 rfl rfl ?_
      refine ro_dup dX6_readPart_15 rfl ?_
      refine gf_X6_at  in_X6_readPart_X6 lk_X6_readPart_69 dX6_readPart_16 ?_
      rw [ha]
      refine ro_iconst (v := 1) dX6_readPart_19 (by decide) ?_
      refine ro_iadd dX6_readPart_20 ?_
      rw [nI_1]
      refine pf_X6_at  in_X6_readPart_X6 lk_X6_readPart_69  dX6_readPart_21 (fun M21 e21 => ?_)
      have ha21 : M21 102 16 = nI (i + 1) := by rw [e21, va_up_self, pk_us]
      have hf21 : M21 102 17 = -9 := by rw [e21, va_up_self, pk_un (by decide)]; exact hf
      have hn21 : M21 102 15 = nI n := by rw [e21, va_up_self, pk_un (by decide)]; exact hn
      have ht21 : ∀ j, j < n → M21 111 j = nI (t j) := by rw [e21, va_up_ne _ _ (by decide)]; exact ht
      have ho21 : ∀ q, q ≠ 102 → M21 q = M q := fun q hq => by rw [e21, va_up_ne _ _ hq]
      have hk21 : ∀ q, q ≠ 16 → q ≠ 17 → M21 102 q = M 102 q := fun q h1 h2 => by rw [e21, va_up_self, pk_un h1]
      refine ro_aload_n dX6_readPart_24 rfl rfl ?_
      refine gf_X6_readHouse  in_X6_readPart_X6 lk_X6_readPart_25 dX6_readPart_25 ?_
      refine ro_iconst (v := 2) dX6_readPart_28 (by decide) ?_
      refine ro_aload_n dX6_readPart_29 rfl rfl ?_
      refine gf_X6_readHouses  in_X6_readPart_X6 lk_X6_readPart_72 dX6_readPart_30 ?_
      rw [show M21 102 11 = nI (ln_n (ps_l p)) from (hk21 11 (by decide) (by decide)).trans hD.1]
      refine ro_imul dX6_readPart_33 ?_
      refine ro_top (show _ = nI (2 * ln_n (ps_l p)) from pk_mul 2 _) ?_
      refine ro_aload_n dX6_readPart_34 rfl rfl ?_
      refine ro_iconst (v := 3) dX6_readPart_35 (by decide) ?_
      refine ro_callV1Q ok_X6_figureUpTo (cr_fig (lim := 4) (flt := -9) (i := i + 1) hf21 ha21 hn21 ht21 h255 h64 (by omega) (by omega) (by omega)) ce_X6 rfl rfl gX6_readPart_X6_figureUpTo (Nat.le_of_ble_eq_true rfl) (Nat.le_of_ble_eq_true rfl) dX6_readPart_36 (fun v36 M36 L36 q36 => ?_)
      obtain ⟨r36, j36, f36, rfl, e36, fg36, rfl⟩ := q36
      have ha36 : M36 102 16 = nI j36 := by rw [e36, va_up_self, pk_un (by decide), pk_us]
      have hf36 : M36 102 17 = f36 := by rw [e36, va_up_self, pk_us]
      have hn36 : M36 102 15 = nI n := by rw [e36, va_up_self, pk_un (by decide), pk_un (by decide)]; exact hn21
      have ht36 : ∀ j, j < n → M36 111 j = nI (t j) := by rw [e36, va_up_ne _ _ (by decide)]; exact ht21
      have ho36 : ∀ q, q ≠ 102 → M36 q = M21 q := fun q hq => by rw [e36, va_up_ne _ _ hq]
      have hk36 : ∀ q, q ≠ 16 → q ≠ 17 → M36 102 q = M21 102 q := fun q h1 h2 => by rw [e36, va_up_self, pk_un h2, pk_un h1]
      have hj36 : j36 ≤ i + 1 + 1 := by rcases fg36 with z | z <;> omega
      refine ro_as ar_108 rfl (by omega) dX6_readPart_39 (fun M39 e39 => ?_)
      have ha39 : M39 102 16 = nI j36 := by rw [e39, va_up_ne _ _ (by decide)]; exact ha36
      have hf39 : M39 102 17 = f36 := by rw [e39, va_up_ne _ _ (by decide)]; exact hf36
      have hn39 : M39 102 15 = nI n := by rw [e39, va_up_ne _ _ (by decide)]; exact hn36
      have ht39 : ∀ j, j < n → M39 111 j = nI (t j) := by rw [e39, va_up_ne _ _ (by decide)]; exact ht36
      have hk39 : M39 102 = M36 102 := by rw [e39, va_up_ne _ _ (by decide)]
      refine ro_aload_n dX6_readPart_40 rfl rfl ?_
      refine gf_X6_readHouse  in_X6_readPart_X6 lk_X6_readPart_25 dX6_readPart_41 ?_
      refine ro_iconst (v := 2) dX6_readPart_44 (by decide) ?_
      refine ro_aload_n dX6_readPart_45 rfl rfl ?_
      refine gf_X6_readHouses  in_X6_readPart_X6 lk_X6_readPart_72 dX6_readPart_46 ?_
      rw [show M39 102 11 = nI (ln_n (ps_l p)) from by rw [hk39, hk36 11 (by decide) (by decide), hk21 11 (by decide) (by decide)]; exact hD.1]
      refine ro_imul dX6_readPart_49 ?_
      refine ro_top (show _ = nI (2 * ln_n (ps_l p)) from pk_mul 2 _) ?_
      refine ro_iconst (v := 1) dX6_readPart_50 (by decide) ?_
      refine ro_iadd dX6_readPart_51 ?_
      refine ro_top (show _ = nI (2 * ln_n (ps_l p) + 1) from nI_add (2 * ln_n (ps_l p)) (1)) ?_
      refine ro_aload_n dX6_readPart_52 rfl rfl ?_
      refine ro_bipush (v := 9) dX6_readPart_53 (by decide) ?_
      refine ro_callV1Q ok_X6_figureUpTo (cr_fig (lim := 10) (flt := f36) (i := j36) hf39 ha39 hn39 ht39 h255 h64 (by omega) (by omega) (by omega)) ce_X6 rfl rfl gX6_readPart_X6_figureUpTo (Nat.le_of_ble_eq_true rfl) (Nat.le_of_ble_eq_true rfl) dX6_readPart_55 (fun v55 M55 L55 q55 => ?_)
      obtain ⟨r55, j55, f55, rfl, e55, fg55, rfl⟩ := q55
      have ha55 : M55 102 16 = nI j55 := by rw [e55, va_up_self, pk_un (by decide), pk_us]
      have hf55 : M55 102 17 = f55 := by rw [e55, va_up_self, pk_us]
      have hn55 : M55 102 15 = nI n := by rw [e55, va_up_self, pk_un (by decide), pk_un (by decide)]; exact hn39
      have ht55 : ∀ j, j < n → M55 111 j = nI (t j) := by rw [e55, va_up_ne _ _ (by decide)]; exact ht39
      have ho55 : ∀ q, q ≠ 102 → M55 q = M39 q := fun q hq => by rw [e55, va_up_ne _ _ hq]
      have hk55 : ∀ q, q ≠ 16 → q ≠ 17 → M55 102 q = M39 102 q := fun q h1 h2 => by rw [e55, va_up_self, pk_un h2, pk_un h1]
      have hj55 : j55 ≤ j36 + 1 := by rcases fg55 with z | z <;> omega
      refine ro_as ar_108 rfl (by omega) dX6_readPart_58 (fun M58 e58 => ?_)
      have ha58 : M58 102 16 = nI j55 := by rw [e58, va_up_ne _ _ (by decide)]; exact ha55
      have hf58 : M58 102 17 = f55 := by rw [e58, va_up_ne _ _ (by decide)]; exact hf55
      have hn58 : M58 102 15 = nI n := by rw [e58, va_up_ne _ _ (by decide)]; exact hn55
      have ht58 : ∀ j, j < n → M58 111 j = nI (t j) := by rw [e58, va_up_ne _ _ (by decide)]; exact ht55
      have hk58 : M58 102 = M55 102 := by rw [e58, va_up_ne _ _ (by decide)]
      refine ro_aload_n dX6_readPart_59 rfl rfl ?_
      refine ro_dup dX6_readPart_60 rfl ?_
      refine gf_X6_readHouses  in_X6_readPart_X6 lk_X6_readPart_72 dX6_readPart_61 ?_
      rw [show M58 102 11 = nI (ln_n (ps_l p)) from by rw [hk58, hk55 11 (by decide) (by decide), hk39, hk36 11 (by decide) (by decide), hk21 11 (by decide) (by decide)]; exact hD.1]
      refine ro_iconst (v := 1) dX6_readPart_64 (by decide) ?_
      refine ro_iadd dX6_readPart_65 ?_
      rw [nI_1]
      refine pf_X6_readHouses  in_X6_readPart_X6 lk_X6_readPart_72  dX6_readPart_66 (fun M66 e66 => ?_)
      refine ro_goto 235 dX6_readPart_69 (by decide) ?_
      refine ro_vret rfl dX6_readPart_235 ?_
      obtain ⟨s1, w1⟩ := fig_s h64 (by decide) (by decide) rfl hS1 fg36 (ps_cl_N (by decide) (by decide) (by decide))
      obtain ⟨s2, w2⟩ := fig_s h64 (by decide) (by decide) rfl s1 fg55 (ps_cl_H rfl rfl)
      have hrow : M66 108 = upd (upd (M 108) (2 * ln_n (ps_l p)) r36) (2 * ln_n (ps_l p) + 1) r55 := by rw [e66, va_up_ne _ _ (by decide), e58, va_up_self, ho55 108 (by decide), e39, va_up_self, ho36 108 (by decide), ho21 108 (by decide)]
      have h102 : ∀ q, q ≠ 16 → q ≠ 17 → q ≠ 11 → M66 102 q = M 102 q := fun q a1 a2 a3 => by rw [e66, va_up_self, pk_un a3, hk58, hk55 q a1 a2, hk39, hk36 q a1 a2, hk21 q a1 a2]
      have hoth : ∀ q, q ≠ 102 → q ≠ 108 → M66 q = M q := fun q a1 a2 => by rw [e66, va_up_ne _ _ a1, e58, va_up_ne _ _ a2, ho55 q a1, e39, va_up_ne _ _ a2, ho36 q a1, ho21 q a1]
      refine ⟨rfl, ⟨fun q a1 a2 a3 a4 a5 => hoth q a1 a3, fun q a1 a2 a3 a4 a5 => h102 q a4 a5 a1, fun k hk => by rw [hoth 107 (by decide) (by decide)]⟩, rfl, _, _, _, by rw [e66, va_up_self, pk_un (by decide)]; exact ha58, by rw [e66, va_up_self, pk_un (by decide)]; exact hf58, s2, fun z => ?_⟩
      obtain ⟨x1, x2, x3, x4⟩ := w2 z
      obtain ⟨y1, y2, y3, y4⟩ := w1 x3
      refine ⟨by omega, rfl, rfl, ⟨ln_addH_ok okp.1 b11 y2 (Nat.le_of_lt_succ x2), Or.inl rfl⟩, ?_⟩
      obtain ⟨d1, d2, d3, d4, d5, d6⟩ := hD
      refine ⟨by rw [e66, va_up_self, pk_us]; rfl, (h102 12 (by decide) (by decide) (by decide)).trans d2, (h102 13 (by decide) (by decide) (by decide)).trans d3, fun j hj => ?_, by rw [hoth 109 (by decide) (by decide)]; exact d5, by rw [hoth 110 (by decide) (by decide)]; exact d6⟩
      have hj2 : j < ln_n (ps_l p) + 1 := hj
      show M66 108 (2 * j) = nI (va_up (ln_kind (ps_l p)) (ln_n (ps_l p)) _ j) ∧ M66 108 (2 * j + 1) = nI (va_up (ln_wall (ps_l p)) (ln_n (ps_l p)) _ j)
      rw [hrow]
      by_cases e : j = ln_n (ps_l p)
      · subst e
        rw [va_up_self, va_up_self, pk_un (by omega), pk_us, pk_us, x1, y1]
        exact ⟨rfl, rfl⟩
      · rw [va_up_ne _ _ e, va_up_ne _ _ e, pk_un (by omega), pk_un (by omega), pk_un (by omega), pk_un (by omega)]
        exact d4 j (by omega)
theorem lr_read {g : GT} {L : LL} {t : Nat → Nat} {n : Nat} {R : Int32 × PS} {M0 : MM} (h255 : ∀ j, j < n → t j ≤ 255) (h64 : n ≤ 64) : ∀ (m i : Nat) (flt : Int32) (p : PS) (M : MM), M 102 16 = nI i → M 102 17 = flt → M 102 15 = nI n → (∀ j, j < n → M 111 j = nI (t j)) → RScr M0 M → SCN t n R i flt p → (flt = -9 → n < i + m) → (flt = -9 → (ps_b p = true ∧ ps_p p = 0 ∧ PsOK p ∧ RDs M (ps_l p))) → JW g mX6_readText 3 (fun v M' L' => v = some (.int R.1) ∧ RScr M0 M' ∧ L' = L ∧ (R.1 = -9 → RDs M' (ps_l R.2) ∧ LnOK (ps_l R.2))) M L 51 [some (.ref (dq_A g 102))] [] := by
  intro m
  induction m with
  | zero =>
    intro i flt p M ha hf hn ht ho hS hm hB
    rcases hS with ⟨rfl, hR, hi⟩ | ⟨z, hz, rfl, hR⟩
    · exact absurd (hm rfl) (by omega)
    · clear hm hB
      refine ro_aload_n dX6_readText_51 rfl rfl ?_
      refine gf_X6_faultAt  in_X6_readText_X6 lk_X6_readText_66 dX6_readText_52 ?_
      rw [hf]
      refine ro_bipush (v := -9) dX6_readText_55 (by decide) ?_
      refine ro_icmp_ne 87 dX6_readText_57 (by decide) (fun b57 => ?_) (fun b57 => ?_)
      · refine ro_aload_n dX6_readText_87 rfl rfl ?_
        refine gf_X6_faultAt  in_X6_readText_X6 lk_X6_readText_66 dX6_readText_88 ?_
        rw [hf]
        refine ro_iret rfl dX6_readText_91 ?_
        exact ⟨by rw [hR], ho, rfl, fun y => absurd (hR.symm.trans y) (nI_ne9 (by omega))⟩
      · exact absurd b57 (nI_ne9 (by omega))
  | succ m ih =>
    intro i flt p M ha hf hn ht ho hS hm hB
    rcases hS with ⟨rfl, hR, hi⟩ | ⟨z, hz, rfl, hR⟩
    · replace hm := hm rfl
      replace hB := hB rfl
      refine ro_aload_n dX6_readText_51 rfl rfl ?_
      refine gf_X6_faultAt  in_X6_readText_X6 lk_X6_readText_66 dX6_readText_52 ?_
      rw [hf]
      refine ro_bipush (v := -9) dX6_readText_55 (by decide) ?_
      refine ro_icmp_ne 87 dX6_readText_57 (by decide) (fun b57 => ?_) (fun b57 => ?_)
      · exact absurd rfl b57
      · refine ro_aload_n dX6_readText_60 rfl rfl ?_
        refine gf_X6_at  in_X6_readText_X6 lk_X6_readText_69 dX6_readText_61 ?_
        rw [ha]
        refine ro_aload_n dX6_readText_64 rfl rfl ?_
        refine gf_X6_length  in_X6_readText_X6 lk_X6_readText_62 dX6_readText_65 ?_
        rw [hn]
        refine ro_icmp_ge 87 dX6_readText_68 (by decide) (fun b68 => ?_) (fun b68 => ?_)
        · rw [nI_leI (by omega) (by omega)] at b68
          have e : i = n := by omega
          subst e
          rw [ps_end, if_pos ⟨hB.1, hB.2.1⟩] at hR
          refine ro_aload_n dX6_readText_87 rfl rfl ?_
          refine gf_X6_faultAt  in_X6_readText_X6 lk_X6_readText_66 dX6_readText_88 ?_
          rw [hf]
          refine ro_iret rfl dX6_readText_91 ?_
          exact ⟨by rw [hR], ho, rfl, fun _ => by rw [hR]; exact ⟨hB.2.2.2, hB.2.2.1.1⟩⟩
        · rw [nI_leI (by omega) (by omega)] at b68
          refine ro_aload_n dX6_readText_71 rfl rfl ?_
          refine ro_aload_n dX6_readText_72 rfl rfl ?_
          refine gf_X6_text  in_X6_readText_X6 lk_X6_readText_34 dX6_readText_73 ?_
          refine ro_aload_n dX6_readText_76 rfl rfl ?_
          refine gf_X6_at  in_X6_readText_X6 lk_X6_readText_69 dX6_readText_77 ?_
          rw [ha]
          refine ro_ai ar_111 rfl (by omega) dX6_readText_80 ?_
          rw [ht i (by omega)]
          refine ro_callV1Q ok_X6_readPart (cr_part hf ha hn ht h255 h64 (by omega) hB.1 hB.2.1 hB.2.2.1 hB.2.2.2 hR) ce_X6 rfl rfl gX6_readText_X6_readPart (Nat.le_of_ble_eq_true rfl) (Nat.le_of_ble_eq_true rfl) dX6_readText_81 (fun v81 M81 L81 q81 => ?_)
          obtain ⟨rfl, hx81, rfl, j81, f81, p81, ha81, hf81, hs81, hc81⟩ := q81
          refine ro_goto 51 dX6_readText_84 (by decide) ?_
          exact ih j81 f81 p81 M81 ha81 hf81 ((hx81.2.1 15 (by decide) (by decide) (by decide) (by decide) (by decide)).trans hn) (by rw [hx81.1 111 (by decide) (by decide) (by decide) (by decide) (by decide)]; exact ht) (ho.tr hx81) hs81 (fun z => by have y := hc81 z; omega) (fun z => (hc81 z).2)
    · clear hm hB ih
      refine ro_aload_n dX6_readText_51 rfl rfl ?_
      refine gf_X6_faultAt  in_X6_readText_X6 lk_X6_readText_66 dX6_readText_52 ?_
      rw [hf]
      refine ro_bipush (v := -9) dX6_readText_55 (by decide) ?_
      refine ro_icmp_ne 87 dX6_readText_57 (by decide) (fun b57 => ?_) (fun b57 => ?_)
      · refine ro_aload_n dX6_readText_87 rfl rfl ?_
        refine gf_X6_faultAt  in_X6_readText_X6 lk_X6_readText_66 dX6_readText_88 ?_
        rw [hf]
        refine ro_iret rfl dX6_readText_91 ?_
        exact ⟨by rw [hR], ho, rfl, fun y => absurd (hR.symm.trans y) (nI_ne9 (by omega))⟩
      · exact absurd b57 (nI_ne9 (by omega))
theorem cr_read {g : GT} {M : MM} {L : LL} {t : Nat → Nat} {n : Nat} (hn : M 102 15 = nI n) (ht : ∀ j, j < n → M 111 j = nI (t j)) (h255 : ∀ j, j < n → t j ≤ 255) (h64 : n ≤ 64) : CTQ g mX6_readText 3 [.ref (dq_A g 102)] M L (fun v M' L' => v = some (.int (pscan t n 0 ps_0).1) ∧ RScr M M' ∧ L' = L ∧ ((pscan t n 0 ps_0).1 = -9 → RDs M' (ps_l (pscan t n 0 ps_0).2) ∧ LnOK (ps_l (pscan t n 0 ps_0).2))) := by
  refine ct_of ok_X6_readText (lv := [some (.ref (dq_A g 102))]) rfl (Nat.le_of_ble_eq_true rfl) ?_
  refine ro_aload_n dX6_readText_0 rfl rfl ?_
  refine ro_iconst (v := 0) dX6_readText_1 (by decide) ?_
  refine pf_X6_at  in_X6_readText_X6 lk_X6_readText_69  dX6_readText_2 (fun M2 e2 => ?_)
  refine ro_aload_n dX6_readText_5 rfl rfl ?_
  refine ro_bipush (v := -9) dX6_readText_6 (by decide) ?_
  refine pf_X6_faultAt  in_X6_readText_X6 lk_X6_readText_66  dX6_readText_8 (fun M8 e8 => ?_)
  refine ro_aload_n dX6_readText_11 rfl rfl ?_
  refine ro_iconst (v := 0) dX6_readText_12 (by decide) ?_
  refine pf_X6_readHouses  in_X6_readText_X6 lk_X6_readText_72  dX6_readText_13 (fun M13 e13 => ?_)
  refine ro_aload_n dX6_readText_16 rfl rfl ?_
  refine ro_iconst (v := 0) dX6_readText_17 (by decide) ?_
  refine pf_X6_readSayings  in_X6_readText_X6 lk_X6_readText_75  dX6_readText_18 (fun M18 e18 => ?_)
  refine ro_aload_n dX6_readText_21 rfl rfl ?_
  refine ro_iconst (v := 0) dX6_readText_22 (by decide) ?_
  refine pf_X6_readRains  in_X6_readText_X6 lk_X6_readText_78  dX6_readText_23 (fun M23 e23 => ?_)
  refine ro_aload_n dX6_readText_26 rfl rfl ?_
  refine gf_X6_length  in_X6_readText_X6 lk_X6_readText_62 dX6_readText_27 ?_
  rw [show M23 102 15 = nI n from by rw [e23, va_up_self, pk_un (by decide), e18, va_up_self, pk_un (by decide), e13, va_up_self, pk_un (by decide), e8, va_up_self, pk_un (by decide), e2, va_up_self, pk_un (by decide)]; exact hn]
  refine ro_if_eq 44 dX6_readText_30 (by decide) (fun b30 => ?_) (fun b30 => ?_)
  · replace b30 : n = 0 := (nI_eq (b := 0) (by omega) (by decide)).mp b30
    refine ro_iconst (v := 0) dX6_readText_44 (by decide) ?_
    refine ro_iret rfl dX6_readText_45 ?_
    have hk : ∀ q, q ≠ 11 → q ≠ 12 → q ≠ 13 → q ≠ 16 → q ≠ 17 → M23 102 q = M 102 q := fun q a1 a2 a3 a4 a5 => by rw [e23, va_up_self, pk_un a3, e18, va_up_self, pk_un a2, e13, va_up_self, pk_un a1, e8, va_up_self, pk_un a5, e2, va_up_self, pk_un a4]
    have hoth : ∀ q, q ≠ 102 → M23 q = M q := fun q a => by rw [e23, va_up_ne _ _ a, e18, va_up_ne _ _ a, e13, va_up_ne _ _ a, e8, va_up_ne _ _ a, e2, va_up_ne _ _ a]
    have hR0 : (pscan t n 0 ps_0).1 = 0 := by
      first
        | (rw [b30]; rfl)
        | (have z := ps_no (t := t) (n := n) (i := 0) (p := ps_0) (by omega) (by rw [pstep_b rfl, if_neg b41])
           rw [Nat.sub_zero] at z
           rw [z]; rfl)
    exact ⟨by rw [hR0], ⟨fun q a1 _ _ _ _ => hoth q a1, fun q a1 a2 a3 a4 a5 => hk q a1 a2 a3 a4 a5, fun k _ => by rw [hoth 107 (by decide)]⟩, rfl, fun z => absurd (hR0.symm.trans z) (by decide)⟩
  · replace b30 : ¬ n = 0 := fun z => b30 (by rw [z]; rfl)
    refine ro_aload_n dX6_readText_33 rfl rfl ?_
    refine gf_X6_text  in_X6_readText_X6 lk_X6_readText_34 dX6_readText_34 ?_
    refine ro_iconst (v := 0) dX6_readText_37 (by decide) ?_
    refine ro_ai ar_111 (k := 0) (by decide) (by decide) dX6_readText_38 ?_
    rw [show M23 111 0 = nI (t 0) from by rw [e23, va_up_ne _ _ (by decide), e18, va_up_ne _ _ (by decide), e13, va_up_ne _ _ (by decide), e8, va_up_ne _ _ (by decide), e2, va_up_ne _ _ (by decide)]; exact ht 0 (by omega)]
    have ht0 := h255 0 (by omega)
    refine ro_bipush (v := 69) dX6_readText_39 (by decide) ?_
    refine ro_icmp_eq 46 dX6_readText_41 (by decide) (fun b41 => ?_) (fun b41 => ?_)
    · replace b41 : t 0 = 69 := (nI_eq (b := 69) (by omega) (by decide)).mp b41
      refine ro_aload_n dX6_readText_46 rfl rfl ?_
      refine ro_iconst (v := 1) dX6_readText_47 (by decide) ?_
      refine pf_X6_at  in_X6_readText_X6 lk_X6_readText_69  dX6_readText_48 (fun M48 e48 => ?_)
      have r2 : M48 102 16 = nI 1 := by rw [e48, va_up_self, pk_us]; rfl
      have hk : ∀ q, q ≠ 11 → q ≠ 12 → q ≠ 13 → q ≠ 16 → q ≠ 17 → M48 102 q = M 102 q := fun q a1 a2 a3 a4 a5 => by rw [e48, va_up_self, pk_un a4, e23, va_up_self, pk_un a3, e18, va_up_self, pk_un a2, e13, va_up_self, pk_un a1, e8, va_up_self, pk_un a5, e2, va_up_self, pk_un a4]
      have hoth : ∀ q, q ≠ 102 → M48 q = M q := fun q a => by rw [e48, va_up_ne _ _ a, e23, va_up_ne _ _ a, e18, va_up_ne _ _ a, e13, va_up_ne _ _ a, e8, va_up_ne _ _ a, e2, va_up_ne _ _ a]
      have g17 : M48 102 17 = -9 := by rw [e48, va_up_self, pk_un (by decide), e23, va_up_self, pk_un (by decide), e18, va_up_self, pk_un (by decide), e13, va_up_self, pk_un (by decide), e8, va_up_self, pk_us]
      have g11 : M48 102 11 = 0 := by rw [e48, va_up_self, pk_un (by decide), e23, va_up_self, pk_un (by decide), e18, va_up_self, pk_un (by decide), e13, va_up_self, pk_us]
      have g12 : M48 102 12 = 0 := by rw [e48, va_up_self, pk_un (by decide), e23, va_up_self, pk_un (by decide), e18, va_up_self, pk_us]
      have g13 : M48 102 13 = 0 := by rw [e48, va_up_self, pk_un (by decide), e23, va_up_self, pk_us]
      refine lr_read h255 h64 64 1 (-9) (true, 0, 0, ps_f ps_0, ln_e) M48 r2 g17 ((hk 15 (by decide) (by decide) (by decide) (by decide) (by decide)).trans hn) (by rw [hoth 111 (by decide)]; exact ht) ⟨fun q a1 _ _ _ _ => hoth q a1, fun q a1 a2 a3 a4 a5 => hk q a1 a2 a3 a4 a5, fun k _ => by rw [hoth 107 (by decide)]⟩ (Or.inl ⟨rfl, ?_, by omega⟩) (fun _ => by omega) (fun _ => ⟨rfl, rfl, ⟨ps0_ok.1, Or.inl rfl⟩, g11, g12, g13, fun j hj => absurd hj (Nat.not_lt_zero j), fun j hj => absurd hj (Nat.not_lt_zero j), fun j hj => absurd hj (Nat.not_lt_zero j)⟩)
      have z := ps_go (t := t) (n := n) (i := 0) (p := ps_0) (by omega) (by rw [pstep_b rfl, if_pos b41])
      rw [Nat.sub_zero] at z
      exact z
    · replace b41 : ¬ t 0 = 69 := fun z => b41 (by rw [z]; rfl)
      refine ro_iconst (v := 0) dX6_readText_44 (by decide) ?_
      refine ro_iret rfl dX6_readText_45 ?_
      have hk : ∀ q, q ≠ 11 → q ≠ 12 → q ≠ 13 → q ≠ 16 → q ≠ 17 → M23 102 q = M 102 q := fun q a1 a2 a3 a4 a5 => by rw [e23, va_up_self, pk_un a3, e18, va_up_self, pk_un a2, e13, va_up_self, pk_un a1, e8, va_up_self, pk_un a5, e2, va_up_self, pk_un a4]
      have hoth : ∀ q, q ≠ 102 → M23 q = M q := fun q a => by rw [e23, va_up_ne _ _ a, e18, va_up_ne _ _ a, e13, va_up_ne _ _ a, e8, va_up_ne _ _ a, e2, va_up_ne _ _ a]
      have hR0 : (pscan t n 0 ps_0).1 = 0 := by
        first
          | (rw [b30]; rfl)
          | (have z := ps_no (t := t) (n := n) (i := 0) (p := ps_0) (by omega) (by rw [pstep_b rfl, if_neg b41])
             rw [Nat.sub_zero] at z
             rw [z]; rfl)
      exact ⟨by rw [hR0], ⟨fun q a1 _ _ _ _ => hoth q a1, fun q a1 a2 a3 a4 a5 => hk q a1 a2 a3 a4 a5, fun k _ => by rw [hoth 107 (by decide)]⟩, rfl, fun z => absurd (hR0.symm.trans z) (by decide)⟩
theorem cr_fault {g : GT} {M : MM} {L : LL} {S : ST} {b : Nat} (h : RR M L S) (ok : StOK b S) : CTQ g mX6_fault 4 [.ref (dq_A g 102)] M L (QR M L (sp_fault S)) := by
  have hL := h.1
  have hS : ScR (M 107) (17 * 0) (ln_n (st_l S)) (st_c S) := h.2.1
  have hA := h.2.2.2.2.1
  have okl := ok.2.2.1
  have oc := ok.2.2.2.1
  have a1 := okl.1
  have hb := ok.2.2.2.2.2.2.2
  have h64 := ok.1
  refine ct_of ok_X6_fault (lv := [some (.ref (dq_A g 102))]) rfl (Nat.le_of_ble_eq_true rfl) ?_
  refine ro_aload_n dX6_fault_0 rfl rfl ?_
  refine ro_callV0Q ok_X6_readText (cr_read h.2.2.1 h.2.2.2.1 ok.2.1 h64) ce_X6 rfl rfl gX6_fault_X6_readText (Nat.le_of_ble_eq_true rfl) (Nat.le_of_ble_eq_true rfl) dX6_fault_1 (fun v1 M1 L1 q1 => ?_)
  obtain ⟨rfl, hx1, rfl, hd1⟩ := q1
  refine ro_iret rfl dX6_fault_4 ?_
  exact ⟨rfl, h.scr hx1 rfl, hx1.all, rfl⟩
