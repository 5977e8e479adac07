theorem ct_figLim {g : GT} {M : MM} {L : LL} {p : PS} (hR : ReaderR M p) (hp : ps_p p ≠ 0) (h2 : ps_p p ≤ 255) (h3 : ps_k p ≤ 3) : CT g mX3_figureLimit 0 [.ref (dq_A g 8)] M L (some (.int (nI (ps_lim p)))) M L := by
  refine ct_of ok_X3_figureLimit (lv := [some (.ref (dq_A g 8))]) rfl (Nat.le_of_ble_eq_true rfl) ?_
  refine ro_aload_n dX3_figureLimit_0 rfl rfl ?_
  refine gf_X3_part  in_X3_figureLimit_X3 lk_X3_figureLimit_29 dX3_figureLimit_1 ?_
  rw [hR.2.1]
  refine ro_bipush (v := 72) dX3_figureLimit_4 (by decide) ?_
  refine ro_icmp_ne 18 dX3_figureLimit_6 (by decide) (fun b6 => ?_) (fun b6 => ?_)
  · replace b6 : ¬ ps_p p = 72 := fun z => b6 (by rw [z]; rfl)
    refine ro_aload_n dX3_figureLimit_18 rfl rfl ?_
    refine gf_X3_part  in_X3_figureLimit_X3 lk_X3_figureLimit_29 dX3_figureLimit_19 ?_
    rw [hR.2.1]
    refine ro_bipush (v := 83) dX3_figureLimit_22 (by decide) ?_
    refine ro_icmp_ne 42 dX3_figureLimit_24 (by decide) (fun b24 => ?_) (fun b24 => ?_)
    · replace b24 : ¬ ps_p p = 83 := fun z => b24 (by rw [z]; rfl)
      refine ro_aload_n dX3_figureLimit_42 rfl rfl ?_
      refine gf_X3_part  in_X3_figureLimit_X3 lk_X3_figureLimit_29 dX3_figureLimit_43 ?_
      rw [hR.2.1]
      refine ro_bipush (v := 83) dX3_figureLimit_46 (by decide) ?_
      refine ro_icmp_ne 62 dX3_figureLimit_48 (by decide) (fun b48 => ?_) (fun b48 => ?_)
      · replace b48 : ¬ ps_p p = 83 := fun z => b48 (by rw [z]; rfl)
        refine ro_bipush (v := 10) dX3_figureLimit_62 (by decide) ?_
        refine ro_iret rfl dX3_figureLimit_64 ?_
        exact ⟨by rw [show ps_lim p = 10 from (if_neg (by omega)).trans ((if_neg (by omega)).trans (if_neg (by omega)))]; rfl, rfl, rfl⟩
      · replace b48 : ps_p p = 83 := (nI_eq (b := 83) (by omega) (by decide)).mp b48
        refine ro_aload_n dX3_figureLimit_51 rfl rfl ?_
        refine gf_X3_figuresRead  in_X3_figureLimit_X3 lk_X3_figureLimit_44 dX3_figureLimit_52 ?_
        rw [hR.2.2.1 hp]
        refine ro_iconst (v := 1) dX3_figureLimit_55 (by decide) ?_
        refine ro_icmp_ne 62 dX3_figureLimit_56 (by decide) (fun b56 => ?_) (fun b56 => ?_)
        · replace b56 : ¬ ps_k p = 1 := fun z => b56 (by rw [z]; rfl)
          refine ro_bipush (v := 10) dX3_figureLimit_62 (by decide) ?_
          refine ro_iret rfl dX3_figureLimit_64 ?_
          exact ⟨by rw [show ps_lim p = 10 from (if_neg (by omega)).trans ((if_neg (by omega)).trans (if_neg (by omega)))]; rfl, rfl, rfl⟩
        · replace b56 : ps_k p = 1 := (nI_eq (b := 1) (by omega) (by decide)).mp b56
          refine ro_bipush (v := 6) dX3_figureLimit_59 (by decide) ?_
          refine ro_iret rfl dX3_figureLimit_61 ?_
          exact ⟨by rw [show ps_lim p = 6 from (if_neg (by omega)).trans ((if_neg (by omega)).trans (if_pos (by omega)))]; rfl, rfl, rfl⟩
    · replace b24 : ps_p p = 83 := (nI_eq (b := 83) (by omega) (by decide)).mp b24
      refine ro_aload_n dX3_figureLimit_27 rfl rfl ?_
      refine gf_X3_figuresRead  in_X3_figureLimit_X3 lk_X3_figureLimit_44 dX3_figureLimit_28 ?_
      rw [hR.2.2.1 hp]
      refine ro_if_ne 42 dX3_figureLimit_31 (by decide) (fun b31 => ?_) (fun b31 => ?_)
      · replace b31 : ¬ ps_k p = 0 := fun z => b31 (by rw [z]; rfl)
        refine ro_aload_n dX3_figureLimit_42 rfl rfl ?_
        refine gf_X3_part  in_X3_figureLimit_X3 lk_X3_figureLimit_29 dX3_figureLimit_43 ?_
        rw [hR.2.1]
        refine ro_bipush (v := 83) dX3_figureLimit_46 (by decide) ?_
        refine ro_icmp_ne 62 dX3_figureLimit_48 (by decide) (fun b48 => ?_) (fun b48 => ?_)
        · replace b48 : ¬ ps_p p = 83 := fun z => b48 (by rw [z]; rfl)
          refine ro_bipush (v := 10) dX3_figureLimit_62 (by decide) ?_
          refine ro_iret rfl dX3_figureLimit_64 ?_
          exact ⟨by rw [show ps_lim p = 10 from (if_neg (by omega)).trans ((if_neg (by omega)).trans (if_neg (by omega)))]; rfl, rfl, rfl⟩
        · replace b48 : ps_p p = 83 := (nI_eq (b := 83) (by omega) (by decide)).mp b48
          refine ro_aload_n dX3_figureLimit_51 rfl rfl ?_
          refine gf_X3_figuresRead  in_X3_figureLimit_X3 lk_X3_figureLimit_44 dX3_figureLimit_52 ?_
          rw [hR.2.2.1 hp]
          refine ro_iconst (v := 1) dX3_figureLimit_55 (by decide) ?_
          refine ro_icmp_ne 62 dX3_figureLimit_56 (by decide) (fun b56 => ?_) (fun b56 => ?_)
          · replace b56 : ¬ ps_k p = 1 := fun z => b56 (by rw [z]; rfl)
            refine ro_bipush (v := 10) dX3_figureLimit_62 (by decide) ?_
            refine ro_iret rfl dX3_figureLimit_64 ?_
            exact ⟨by rw [show ps_lim p = 10 from (if_neg (by omega)).trans ((if_neg (by omega)).trans (if_neg (by omega)))]; rfl, rfl, rfl⟩
          · replace b56 : ps_k p = 1 := (nI_eq (b := 1) (by omega) (by decide)).mp b56
            refine ro_bipush (v := 6) dX3_figureLimit_59 (by decide) ?_
            refine ro_iret rfl dX3_figureLimit_61 ?_
            exact ⟨by rw [show ps_lim p = 6 from (if_neg (by omega)).trans ((if_neg (by omega)).trans (if_pos (by omega)))]; rfl, rfl, rfl⟩
      · replace b31 : ps_k p = 0 := (nI_eq (b := 0) (by omega) (by decide)).mp b31
        refine ro_aload_n dX3_figureLimit_34 rfl rfl ?_
        refine gf_X3_draft  in_X3_figureLimit_X3 lk_X3_figureLimit_12 dX3_figureLimit_35 ?_
        refine gf_X2_houses ln_23 in_X3_figureLimit_X2 lk_X3_figureLimit_50 dX3_figureLimit_38 ?_
        rw [hR.2.2.2.2.1]
        refine ro_iret rfl dX3_figureLimit_41 ?_
        exact ⟨by rw [show ps_lim p = ln_n (ps_l p) from (if_neg (by omega)).trans (if_pos (by omega))], rfl, rfl⟩
  · replace b6 : ps_p p = 72 := (nI_eq (b := 72) (by omega) (by decide)).mp b6
    refine ro_aload_n dX3_figureLimit_9 rfl rfl ?_
    refine gf_X3_figuresRead  in_X3_figureLimit_X3 lk_X3_figureLimit_44 dX3_figureLimit_10 ?_
    rw [hR.2.2.1 hp]
    refine ro_if_ne 18 dX3_figureLimit_13 (by decide) (fun b13 => ?_) (fun b13 => ?_)
    · replace b13 : ¬ ps_k p = 0 := fun z => b13 (by rw [z]; rfl)
      refine ro_aload_n dX3_figureLimit_18 rfl rfl ?_
      refine gf_X3_part  in_X3_figureLimit_X3 lk_X3_figureLimit_29 dX3_figureLimit_19 ?_
      rw [hR.2.1]
      refine ro_bipush (v := 83) dX3_figureLimit_22 (by decide) ?_
      refine ro_icmp_ne 42 dX3_figureLimit_24 (by decide) (fun b24 => ?_) (fun b24 => ?_)
      · replace b24 : ¬ ps_p p = 83 := fun z => b24 (by rw [z]; rfl)
        refine ro_aload_n dX3_figureLimit_42 rfl rfl ?_
        refine gf_X3_part  in_X3_figureLimit_X3 lk_X3_figureLimit_29 dX3_figureLimit_43 ?_
        rw [hR.2.1]
        refine ro_bipush (v := 83) dX3_figureLimit_46 (by decide) ?_
        refine ro_icmp_ne 62 dX3_figureLimit_48 (by decide) (fun b48 => ?_) (fun b48 => ?_)
        · replace b48 : ¬ ps_p p = 83 := fun z => b48 (by rw [z]; rfl)
          refine ro_bipush (v := 10) dX3_figureLimit_62 (by decide) ?_
          refine ro_iret rfl dX3_figureLimit_64 ?_
          exact ⟨by rw [show ps_lim p = 10 from (if_neg (by omega)).trans ((if_neg (by omega)).trans (if_neg (by omega)))]; rfl, rfl, rfl⟩
        · replace b48 : ps_p p = 83 := (nI_eq (b := 83) (by omega) (by decide)).mp b48
          refine ro_aload_n dX3_figureLimit_51 rfl rfl ?_
          refine gf_X3_figuresRead  in_X3_figureLimit_X3 lk_X3_figureLimit_44 dX3_figureLimit_52 ?_
          rw [hR.2.2.1 hp]
          refine ro_iconst (v := 1) dX3_figureLimit_55 (by decide) ?_
          refine ro_icmp_ne 62 dX3_figureLimit_56 (by decide) (fun b56 => ?_) (fun b56 => ?_)
          · replace b56 : ¬ ps_k p = 1 := fun z => b56 (by rw [z]; rfl)
            refine ro_bipush (v := 10) dX3_figureLimit_62 (by decide) ?_
            refine ro_iret rfl dX3_figureLimit_64 ?_
            exact ⟨by rw [show ps_lim p = 10 from (if_neg (by omega)).trans ((if_neg (by omega)).trans (if_neg (by omega)))]; rfl, rfl, rfl⟩
          · replace b56 : ps_k p = 1 := (nI_eq (b := 1) (by omega) (by decide)).mp b56
            refine ro_bipush (v := 6) dX3_figureLimit_59 (by decide) ?_
            refine ro_iret rfl dX3_figureLimit_61 ?_
            exact ⟨by rw [show ps_lim p = 6 from (if_neg (by omega)).trans ((if_neg (by omega)).trans (if_pos (by omega)))]; rfl, rfl, rfl⟩
      · replace b24 : ps_p p = 83 := (nI_eq (b := 83) (by omega) (by decide)).mp b24
        refine ro_aload_n dX3_figureLimit_27 rfl rfl ?_
        refine gf_X3_figuresRead  in_X3_figureLimit_X3 lk_X3_figureLimit_44 dX3_figureLimit_28 ?_
        rw [hR.2.2.1 hp]
        refine ro_if_ne 42 dX3_figureLimit_31 (by decide) (fun b31 => ?_) (fun b31 => ?_)
        · replace b31 : ¬ ps_k p = 0 := fun z => b31 (by rw [z]; rfl)
          refine ro_aload_n dX3_figureLimit_42 rfl rfl ?_
          refine gf_X3_part  in_X3_figureLimit_X3 lk_X3_figureLimit_29 dX3_figureLimit_43 ?_
          rw [hR.2.1]
          refine ro_bipush (v := 83) dX3_figureLimit_46 (by decide) ?_
          refine ro_icmp_ne 62 dX3_figureLimit_48 (by decide) (fun b48 => ?_) (fun b48 => ?_)
          · replace b48 : ¬ ps_p p = 83 := fun z => b48 (by rw [z]; rfl)
            refine ro_bipush (v := 10) dX3_figureLimit_62 (by decide) ?_
            refine ro_iret rfl dX3_figureLimit_64 ?_
            exact ⟨by rw [show ps_lim p = 10 from (if_neg (by omega)).trans ((if_neg (by omega)).trans (if_neg (by omega)))]; rfl, rfl, rfl⟩
          · replace b48 : ps_p p = 83 := (nI_eq (b := 83) (by omega) (by decide)).mp b48
            refine ro_aload_n dX3_figureLimit_51 rfl rfl ?_
            refine gf_X3_figuresRead  in_X3_figureLimit_X3 lk_X3_figureLimit_44 dX3_figureLimit_52 ?_
            rw [hR.2.2.1 hp]
            refine ro_iconst (v := 1) dX3_figureLimit_55 (by decide) ?_
            refine ro_icmp_ne 62 dX3_figureLimit_56 (by decide) (fun b56 => ?_) (fun b56 => ?_)
            · replace b56 : ¬ ps_k p = 1 := fun z => b56 (by rw [z]; rfl)
              refine ro_bipush (v := 10) dX3_figureLimit_62 (by decide) ?_
              refine ro_iret rfl dX3_figureLimit_64 ?_
              exact ⟨by rw [show ps_lim p = 10 from (if_neg (by omega)).trans ((if_neg (by omega)).trans (if_neg (by omega)))]; rfl, rfl, rfl⟩
            · replace b56 : ps_k p = 1 := (nI_eq (b := 1) (by omega) (by decide)).mp b56
              refine ro_bipush (v := 6) dX3_figureLimit_59 (by decide) ?_
              refine ro_iret rfl dX3_figureLimit_61 ?_
              exact ⟨by rw [show ps_lim p = 6 from (if_neg (by omega)).trans ((if_neg (by omega)).trans (if_pos (by omega)))]; rfl, rfl, rfl⟩
        · replace b31 : ps_k p = 0 := (nI_eq (b := 0) (by omega) (by decide)).mp b31
          refine ro_aload_n dX3_figureLimit_34 rfl rfl ?_
          refine gf_X3_draft  in_X3_figureLimit_X3 lk_X3_figureLimit_12 dX3_figureLimit_35 ?_
          refine gf_X2_houses ln_23 in_X3_figureLimit_X2 lk_X3_figureLimit_50 dX3_figureLimit_38 ?_
          rw [hR.2.2.2.2.1]
          refine ro_iret rfl dX3_figureLimit_41 ?_
          exact ⟨by rw [show ps_lim p = ln_n (ps_l p) from (if_neg (by omega)).trans (if_pos (by omega))], rfl, rfl⟩
    · replace b13 : ps_k p = 0 := (nI_eq (b := 0) (by omega) (by decide)).mp b13
      refine ro_iconst (v := 4) dX3_figureLimit_16 (by decide) ?_
      refine ro_iret rfl dX3_figureLimit_17 ?_
      exact ⟨by rw [show ps_lim p = 4 from if_pos (by omega)]; rfl, rfl, rfl⟩
theorem ct_opens {g : GT} {M : MM} {L : LL} {p : PS} {x : Nat} (hR : ReaderR M p) (ok : LnOK (ps_l p)) (hx : x ≤ 255) : CTQ g mX3_opensPart 0 [.ref (dq_A g 8), .int (nI x)] M L (fun v M' L' => (∃ w : Bool, v = some (.int (bI w)) ∧ (w = true → ps_opens (ps_l p) x ∧ ReaderR M' (ps_b p, x, 0, ps_f p, ps_l p)) ∧ (w = false → ¬ ps_opens (ps_l p) x ∧ M' = M)) ∧ OnlyRd M M' ∧ L' = L) := by
  have a1 := ok.1
  have a2 := ok.2.1
  have a3 := ok.2.2.1
  refine ct_of ok_X3_opensPart (lv := [some (.ref (dq_A g 8)), some (.int (nI x)), none]) rfl (Nat.le_of_ble_eq_true rfl) ?_
  refine ro_iload_n dX3_opensPart_0 rfl rfl ?_
  refine ro_bipush (v := 72) dX3_opensPart_1 (by decide) ?_
  refine ro_icmp_ne 17 dX3_opensPart_3 (by decide) (fun b3 => ?_) (fun b3 => ?_)
  · replace b3 : ¬ x = 72 := fun z => b3 (by rw [z]; rfl)
    refine ro_iload_n dX3_opensPart_17 rfl rfl ?_
    refine ro_bipush (v := 83) dX3_opensPart_18 (by decide) ?_
    refine ro_icmp_ne 45 dX3_opensPart_20 (by decide) (fun b20 => ?_) (fun b20 => ?_)
    · replace b20 : ¬ x = 83 := fun z => b20 (by rw [z]; rfl)
      refine ro_iload_n dX3_opensPart_45 rfl rfl ?_
      refine ro_bipush (v := 82) dX3_opensPart_46 (by decide) ?_
      refine ro_icmp_ne 66 dX3_opensPart_48 (by decide) (fun b48 => ?_) (fun b48 => ?_)
      · replace b48 : ¬ x = 82 := fun z => b48 (by rw [z]; rfl)
        refine ro_iconst (v := 0) dX3_opensPart_66 (by decide) ?_
        refine ro_istore_n2 dX3_opensPart_67 (Nat.le_of_ble_eq_true rfl) rfl ?_
        refine ro_iload_n dX3_opensPart_68 rfl rfl ?_
        refine ro_if_eq 82 dX3_opensPart_69 (by decide) (fun b69 => ?_) (fun b69 => ?_)
        · refine ro_iload_n dX3_opensPart_82 rfl rfl ?_
          refine ro_zret rfl rfl dX3_opensPart_83 ?_
          first
            | exact ⟨⟨false, rfl, fun z => absurd z (by decide), fun _ => ⟨by unfold ps_opens; omega, rfl⟩⟩, OnlyRd.rf, rfl⟩
            | (have q1 : OnlyRd M M79 := (OnlyRd.up e74 (Or.inl rfl)).tr (OnlyRd.up e79 (Or.inl rfl))
               refine ⟨⟨true, rfl, fun _ => ⟨by unfold ps_opens; omega, ?_⟩, fun z => absurd z (by decide)⟩, q1, rfl⟩
               have r8 : M79 8 = upd (upd (M 8) 3 (nI x)) 4 0 := by rw [e79, va_up_self, e74, va_up_self]
               refine ⟨by rw [r8, pk_un (by decide), pk_un (by decide)]; exact hR.1, by rw [r8, pk_un (by decide), pk_us]; rfl, fun _ => by rw [r8, pk_us]; rfl, fun _ j hj => absurd hj (Nat.not_lt_zero j), hR.2.2.2.2.keep (fun i h1 h2 => by rw [e79, va_up_ne _ _ (by omega), e74, va_up_ne _ _ (by omega)])⟩)
        · exact absurd b69 (by decide)
      · replace b48 : x = 82 := (nI_eq (b := 82) (by omega) (by decide)).mp b48
        refine ro_aload_n dX3_opensPart_51 rfl rfl ?_
        refine gf_X3_draft  in_X3_opensPart_X3 lk_X3_opensPart_12 dX3_opensPart_52 ?_
        refine gf_X2_rains ln_23 in_X3_opensPart_X2 lk_X3_opensPart_56 dX3_opensPart_55 ?_
        rw [hR.2.2.2.2.2.2.1]
        refine ro_iconst (v := 4) dX3_opensPart_58 (by decide) ?_
        refine ro_icmp_ge 66 dX3_opensPart_59 (by decide) (fun b59 => ?_) (fun b59 => ?_)
        · replace b59 : 4 ≤ ln_r (ps_l p) := (nI_leI (a := 4) (by decide) (by omega)).mp b59
          refine ro_iconst (v := 0) dX3_opensPart_66 (by decide) ?_
          refine ro_istore_n2 dX3_opensPart_67 (Nat.le_of_ble_eq_true rfl) rfl ?_
          refine ro_iload_n dX3_opensPart_68 rfl rfl ?_
          refine ro_if_eq 82 dX3_opensPart_69 (by decide) (fun b69 => ?_) (fun b69 => ?_)
          · refine ro_iload_n dX3_opensPart_82 rfl rfl ?_
            refine ro_zret rfl rfl dX3_opensPart_83 ?_
            first
              | exact ⟨⟨false, rfl, fun z => absurd z (by decide), fun _ => ⟨by unfold ps_opens; omega, rfl⟩⟩, OnlyRd.rf, rfl⟩
              | (have q1 : OnlyRd M M79 := (OnlyRd.up e74 (Or.inl rfl)).tr (OnlyRd.up e79 (Or.inl rfl))
                 refine ⟨⟨true, rfl, fun _ => ⟨by unfold ps_opens; omega, ?_⟩, fun z => absurd z (by decide)⟩, q1, rfl⟩
                 have r8 : M79 8 = upd (upd (M 8) 3 (nI x)) 4 0 := by rw [e79, va_up_self, e74, va_up_self]
                 refine ⟨by rw [r8, pk_un (by decide), pk_un (by decide)]; exact hR.1, by rw [r8, pk_un (by decide), pk_us]; rfl, fun _ => by rw [r8, pk_us]; rfl, fun _ j hj => absurd hj (Nat.not_lt_zero j), hR.2.2.2.2.keep (fun i h1 h2 => by rw [e79, va_up_ne _ _ (by omega), e74, va_up_ne _ _ (by omega)])⟩)
          · exact absurd b69 (by decide)
        · replace b59 : ¬ 4 ≤ ln_r (ps_l p) := fun z => b59 ((nI_leI (a := 4) (by decide) (by omega)).mpr z)
          refine ro_iconst (v := 1) dX3_opensPart_62 (by decide) ?_
          refine ro_goto 67 dX3_opensPart_63 (by decide) ?_
          refine ro_istore_n2 dX3_opensPart_67 (Nat.le_of_ble_eq_true rfl) rfl ?_
          refine ro_iload_n dX3_opensPart_68 rfl rfl ?_
          refine ro_if_eq 82 dX3_opensPart_69 (by decide) (fun b69 => ?_) (fun b69 => ?_)
          · exact absurd b69 (by decide)
          · refine ro_aload_n dX3_opensPart_72 rfl rfl ?_
            refine ro_iload_n dX3_opensPart_73 rfl rfl ?_
            refine pf_X3_part  in_X3_opensPart_X3 lk_X3_opensPart_29  dX3_opensPart_74 (fun M74 e74 => ?_)
            refine ro_aload_n dX3_opensPart_77 rfl rfl ?_
            refine ro_iconst (v := 0) dX3_opensPart_78 (by decide) ?_
            refine pf_X3_figuresRead  in_X3_opensPart_X3 lk_X3_opensPart_44  dX3_opensPart_79 (fun M79 e79 => ?_)
            refine ro_iload_n dX3_opensPart_82 rfl rfl ?_
            refine ro_zret rfl rfl dX3_opensPart_83 ?_
            first
              | exact ⟨⟨false, rfl, fun z => absurd z (by decide), fun _ => ⟨by unfold ps_opens; omega, rfl⟩⟩, OnlyRd.rf, rfl⟩
              | (have q1 : OnlyRd M M79 := (OnlyRd.up e74 (Or.inl rfl)).tr (OnlyRd.up e79 (Or.inl rfl))
                 refine ⟨⟨true, rfl, fun _ => ⟨by unfold ps_opens; omega, ?_⟩, fun z => absurd z (by decide)⟩, q1, rfl⟩
                 have r8 : M79 8 = upd (upd (M 8) 3 (nI x)) 4 0 := by rw [e79, va_up_self, e74, va_up_self]
                 refine ⟨by rw [r8, pk_un (by decide), pk_un (by decide)]; exact hR.1, by rw [r8, pk_un (by decide), pk_us]; rfl, fun _ => by rw [r8, pk_us]; rfl, fun _ j hj => absurd hj (Nat.not_lt_zero j), hR.2.2.2.2.keep (fun i h1 h2 => by rw [e79, va_up_ne _ _ (by omega), e74, va_up_ne _ _ (by omega)])⟩)
    · replace b20 : x = 83 := (nI_eq (b := 83) (by omega) (by decide)).mp b20
      refine ro_aload_n dX3_opensPart_23 rfl rfl ?_
      refine gf_X3_draft  in_X3_opensPart_X3 lk_X3_opensPart_12 dX3_opensPart_24 ?_
      refine gf_X2_houses ln_23 in_X3_opensPart_X2 lk_X3_opensPart_50 dX3_opensPart_27 ?_
      rw [hR.2.2.2.2.1]
      refine ro_if_le 45 dX3_opensPart_30 (by decide) (fun b30 => ?_) (fun b30 => ?_)
      · rw [nI_le0 (by omega)] at b30
        refine ro_iload_n dX3_opensPart_45 rfl rfl ?_
        refine ro_bipush (v := 82) dX3_opensPart_46 (by decide) ?_
        refine ro_icmp_ne 66 dX3_opensPart_48 (by decide) (fun b48 => ?_) (fun b48 => ?_)
        · replace b48 : ¬ x = 82 := fun z => b48 (by rw [z]; rfl)
          refine ro_iconst (v := 0) dX3_opensPart_66 (by decide) ?_
          refine ro_istore_n2 dX3_opensPart_67 (Nat.le_of_ble_eq_true rfl) rfl ?_
          refine ro_iload_n dX3_opensPart_68 rfl rfl ?_
          refine ro_if_eq 82 dX3_opensPart_69 (by decide) (fun b69 => ?_) (fun b69 => ?_)
          · refine ro_iload_n dX3_opensPart_82 rfl rfl ?_
            refine ro_zret rfl rfl dX3_opensPart_83 ?_
            first
              | exact ⟨⟨false, rfl, fun z => absurd z (by decide), fun _ => ⟨by unfold ps_opens; omega, rfl⟩⟩, OnlyRd.rf, rfl⟩
              | (have q1 : OnlyRd M M79 := (OnlyRd.up e74 (Or.inl rfl)).tr (OnlyRd.up e79 (Or.inl rfl))
                 refine ⟨⟨true, rfl, fun _ => ⟨by unfold ps_opens; omega, ?_⟩, fun z => absurd z (by decide)⟩, q1, rfl⟩
                 have r8 : M79 8 = upd (upd (M 8) 3 (nI x)) 4 0 := by rw [e79, va_up_self, e74, va_up_self]
                 refine ⟨by rw [r8, pk_un (by decide), pk_un (by decide)]; exact hR.1, by rw [r8, pk_un (by decide), pk_us]; rfl, fun _ => by rw [r8, pk_us]; rfl, fun _ j hj => absurd hj (Nat.not_lt_zero j), hR.2.2.2.2.keep (fun i h1 h2 => by rw [e79, va_up_ne _ _ (by omega), e74, va_up_ne _ _ (by omega)])⟩)
          · exact absurd b69 (by decide)
        · replace b48 : x = 82 := (nI_eq (b := 82) (by omega) (by decide)).mp b48
          refine ro_aload_n dX3_opensPart_51 rfl rfl ?_
          refine gf_X3_draft  in_X3_opensPart_X3 lk_X3_opensPart_12 dX3_opensPart_52 ?_
          refine gf_X2_rains ln_23 in_X3_opensPart_X2 lk_X3_opensPart_56 dX3_opensPart_55 ?_
          rw [hR.2.2.2.2.2.2.1]
          refine ro_iconst (v := 4) dX3_opensPart_58 (by decide) ?_
          refine ro_icmp_ge 66 dX3_opensPart_59 (by decide) (fun b59 => ?_) (fun b59 => ?_)
          · replace b59 : 4 ≤ ln_r (ps_l p) := (nI_leI (a := 4) (by decide) (by omega)).mp b59
            refine ro_iconst (v := 0) dX3_opensPart_66 (by decide) ?_
            refine ro_istore_n2 dX3_opensPart_67 (Nat.le_of_ble_eq_true rfl) rfl ?_
            refine ro_iload_n dX3_opensPart_68 rfl rfl ?_
            refine ro_if_eq 82 dX3_opensPart_69 (by decide) (fun b69 => ?_) (fun b69 => ?_)
            · refine ro_iload_n dX3_opensPart_82 rfl rfl ?_
              refine ro_zret rfl rfl dX3_opensPart_83 ?_
              first
                | exact ⟨⟨false, rfl, fun z => absurd z (by decide), fun _ => ⟨by unfold ps_opens; omega, rfl⟩⟩, OnlyRd.rf, rfl⟩
                | (have q1 : OnlyRd M M79 := (OnlyRd.up e74 (Or.inl rfl)).tr (OnlyRd.up e79 (Or.inl rfl))
                   refine ⟨⟨true, rfl, fun _ => ⟨by unfold ps_opens; omega, ?_⟩, fun z => absurd z (by decide)⟩, q1, rfl⟩
                   have r8 : M79 8 = upd (upd (M 8) 3 (nI x)) 4 0 := by rw [e79, va_up_self, e74, va_up_self]
                   refine ⟨by rw [r8, pk_un (by decide), pk_un (by decide)]; exact hR.1, by rw [r8, pk_un (by decide), pk_us]; rfl, fun _ => by rw [r8, pk_us]; rfl, fun _ j hj => absurd hj (Nat.not_lt_zero j), hR.2.2.2.2.keep (fun i h1 h2 => by rw [e79, va_up_ne _ _ (by omega), e74, va_up_ne _ _ (by omega)])⟩)
            · exact absurd b69 (by decide)
          · replace b59 : ¬ 4 ≤ ln_r (ps_l p) := fun z => b59 ((nI_leI (a := 4) (by decide) (by omega)).mpr z)
            refine ro_iconst (v := 1) dX3_opensPart_62 (by decide) ?_
            refine ro_goto 67 dX3_opensPart_63 (by decide) ?_
            refine ro_istore_n2 dX3_opensPart_67 (Nat.le_of_ble_eq_true rfl) rfl ?_
            refine ro_iload_n dX3_opensPart_68 rfl rfl ?_
            refine ro_if_eq 82 dX3_opensPart_69 (by decide) (fun b69 => ?_) (fun b69 => ?_)
            · exact absurd b69 (by decide)
            · refine ro_aload_n dX3_opensPart_72 rfl rfl ?_
              refine ro_iload_n dX3_opensPart_73 rfl rfl ?_
              refine pf_X3_part  in_X3_opensPart_X3 lk_X3_opensPart_29  dX3_opensPart_74 (fun M74 e74 => ?_)
              refine ro_aload_n dX3_opensPart_77 rfl rfl ?_
              refine ro_iconst (v := 0) dX3_opensPart_78 (by decide) ?_
              refine pf_X3_figuresRead  in_X3_opensPart_X3 lk_X3_opensPart_44  dX3_opensPart_79 (fun M79 e79 => ?_)
              refine ro_iload_n dX3_opensPart_82 rfl rfl ?_
              refine ro_zret rfl rfl dX3_opensPart_83 ?_
              first
                | exact ⟨⟨false, rfl, fun z => absurd z (by decide), fun _ => ⟨by unfold ps_opens; omega, rfl⟩⟩, OnlyRd.rf, rfl⟩
                | (have q1 : OnlyRd M M79 := (OnlyRd.up e74 (Or.inl rfl)).tr (OnlyRd.up e79 (Or.inl rfl))
                   refine ⟨⟨true, rfl, fun _ => ⟨by unfold ps_opens; omega, ?_⟩, fun z => absurd z (by decide)⟩, q1, rfl⟩
                   have r8 : M79 8 = upd (upd (M 8) 3 (nI x)) 4 0 := by rw [e79, va_up_self, e74, va_up_self]
                   refine ⟨by rw [r8, pk_un (by decide), pk_un (by decide)]; exact hR.1, by rw [r8, pk_un (by decide), pk_us]; rfl, fun _ => by rw [r8, pk_us]; rfl, fun _ j hj => absurd hj (Nat.not_lt_zero j), hR.2.2.2.2.keep (fun i h1 h2 => by rw [e79, va_up_ne _ _ (by omega), e74, va_up_ne _ _ (by omega)])⟩)
      · rw [nI_le0 (by omega)] at b30
        refine ro_aload_n dX3_opensPart_33 rfl rfl ?_
        refine gf_X3_draft  in_X3_opensPart_X3 lk_X3_opensPart_12 dX3_opensPart_34 ?_
        refine gf_X2_sayings ln_23 in_X3_opensPart_X2 lk_X3_opensPart_53 dX3_opensPart_37 ?_
        rw [hR.2.2.2.2.2.1]
        refine ro_bipush (v := 8) dX3_opensPart_40 (by decide) ?_
        refine ro_icmp_lt 62 dX3_opensPart_42 (by decide) (fun b42 => ?_) (fun b42 => ?_)
        · replace b42 : ln_s (ps_l p) < 8 := (nI_ltI (b := 8) (by omega) (by decide)).mp b42
          refine ro_iconst (v := 1) dX3_opensPart_62 (by decide) ?_
          refine ro_goto 67 dX3_opensPart_63 (by decide) ?_
          refine ro_istore_n2 dX3_opensPart_67 (Nat.le_of_ble_eq_true rfl) rfl ?_
          refine ro_iload_n dX3_opensPart_68 rfl rfl ?_
          refine ro_if_eq 82 dX3_opensPart_69 (by decide) (fun b69 => ?_) (fun b69 => ?_)
          · exact absurd b69 (by decide)
          · refine ro_aload_n dX3_opensPart_72 rfl rfl ?_
            refine ro_iload_n dX3_opensPart_73 rfl rfl ?_
            refine pf_X3_part  in_X3_opensPart_X3 lk_X3_opensPart_29  dX3_opensPart_74 (fun M74 e74 => ?_)
            refine ro_aload_n dX3_opensPart_77 rfl rfl ?_
            refine ro_iconst (v := 0) dX3_opensPart_78 (by decide) ?_
            refine pf_X3_figuresRead  in_X3_opensPart_X3 lk_X3_opensPart_44  dX3_opensPart_79 (fun M79 e79 => ?_)
            refine ro_iload_n dX3_opensPart_82 rfl rfl ?_
            refine ro_zret rfl rfl dX3_opensPart_83 ?_
            first
              | exact ⟨⟨false, rfl, fun z => absurd z (by decide), fun _ => ⟨by unfold ps_opens; omega, rfl⟩⟩, OnlyRd.rf, rfl⟩
              | (have q1 : OnlyRd M M79 := (OnlyRd.up e74 (Or.inl rfl)).tr (OnlyRd.up e79 (Or.inl rfl))
                 refine ⟨⟨true, rfl, fun _ => ⟨by unfold ps_opens; omega, ?_⟩, fun z => absurd z (by decide)⟩, q1, rfl⟩
                 have r8 : M79 8 = upd (upd (M 8) 3 (nI x)) 4 0 := by rw [e79, va_up_self, e74, va_up_self]
                 refine ⟨by rw [r8, pk_un (by decide), pk_un (by decide)]; exact hR.1, by rw [r8, pk_un (by decide), pk_us]; rfl, fun _ => by rw [r8, pk_us]; rfl, fun _ j hj => absurd hj (Nat.not_lt_zero j), hR.2.2.2.2.keep (fun i h1 h2 => by rw [e79, va_up_ne _ _ (by omega), e74, va_up_ne _ _ (by omega)])⟩)
        · replace b42 : ¬ ln_s (ps_l p) < 8 := fun z => b42 ((nI_ltI (b := 8) (by omega) (by decide)).mpr z)
          refine ro_iload_n dX3_opensPart_45 rfl rfl ?_
          refine ro_bipush (v := 82) dX3_opensPart_46 (by decide) ?_
          refine ro_icmp_ne 66 dX3_opensPart_48 (by decide) (fun b48 => ?_) (fun b48 => ?_)
          · replace b48 : ¬ x = 82 := fun z => b48 (by rw [z]; rfl)
            refine ro_iconst (v := 0) dX3_opensPart_66 (by decide) ?_
            refine ro_istore_n2 dX3_opensPart_67 (Nat.le_of_ble_eq_true rfl) rfl ?_
            refine ro_iload_n dX3_opensPart_68 rfl rfl ?_
            refine ro_if_eq 82 dX3_opensPart_69 (by decide) (fun b69 => ?_) (fun b69 => ?_)
            · refine ro_iload_n dX3_opensPart_82 rfl rfl ?_
              refine ro_zret rfl rfl dX3_opensPart_83 ?_
              first
                | exact ⟨⟨false, rfl, fun z => absurd z (by decide), fun _ => ⟨by unfold ps_opens; omega, rfl⟩⟩, OnlyRd.rf, rfl⟩
                | (have q1 : OnlyRd M M79 := (OnlyRd.up e74 (Or.inl rfl)).tr (OnlyRd.up e79 (Or.inl rfl))
                   refine ⟨⟨true, rfl, fun _ => ⟨by unfold ps_opens; omega, ?_⟩, fun z => absurd z (by decide)⟩, q1, rfl⟩
                   have r8 : M79 8 = upd (upd (M 8) 3 (nI x)) 4 0 := by rw [e79, va_up_self, e74, va_up_self]
                   refine ⟨by rw [r8, pk_un (by decide), pk_un (by decide)]; exact hR.1, by rw [r8, pk_un (by decide), pk_us]; rfl, fun _ => by rw [r8, pk_us]; rfl, fun _ j hj => absurd hj (Nat.not_lt_zero j), hR.2.2.2.2.keep (fun i h1 h2 => by rw [e79, va_up_ne _ _ (by omega), e74, va_up_ne _ _ (by omega)])⟩)
            · exact absurd b69 (by decide)
          · replace b48 : x = 82 := (nI_eq (b := 82) (by omega) (by decide)).mp b48
            refine ro_aload_n dX3_opensPart_51 rfl rfl ?_
            refine gf_X3_draft  in_X3_opensPart_X3 lk_X3_opensPart_12 dX3_opensPart_52 ?_
            refine gf_X2_rains ln_23 in_X3_opensPart_X2 lk_X3_opensPart_56 dX3_opensPart_55 ?_
            rw [hR.2.2.2.2.2.2.1]
            refine ro_iconst (v := 4) dX3_opensPart_58 (by decide) ?_
            refine ro_icmp_ge 66 dX3_opensPart_59 (by decide) (fun b59 => ?_) (fun b59 => ?_)
            · replace b59 : 4 ≤ ln_r (ps_l p) := (nI_leI (a := 4) (by decide) (by omega)).mp b59
              refine ro_iconst (v := 0) dX3_opensPart_66 (by decide) ?_
              refine ro_istore_n2 dX3_opensPart_67 (Nat.le_of_ble_eq_true rfl) rfl ?_
              refine ro_iload_n dX3_opensPart_68 rfl rfl ?_
              refine ro_if_eq 82 dX3_opensPart_69 (by decide) (fun b69 => ?_) (fun b69 => ?_)
              · refine ro_iload_n dX3_opensPart_82 rfl rfl ?_
                refine ro_zret rfl rfl dX3_opensPart_83 ?_
                first
                  | exact ⟨⟨false, rfl, fun z => absurd z (by decide), fun _ => ⟨by unfold ps_opens; omega, rfl⟩⟩, OnlyRd.rf, rfl⟩
                  | (have q1 : OnlyRd M M79 := (OnlyRd.up e74 (Or.inl rfl)).tr (OnlyRd.up e79 (Or.inl rfl))
                     refine ⟨⟨true, rfl, fun _ => ⟨by unfold ps_opens; omega, ?_⟩, fun z => absurd z (by decide)⟩, q1, rfl⟩
                     have r8 : M79 8 = upd (upd (M 8) 3 (nI x)) 4 0 := by rw [e79, va_up_self, e74, va_up_self]
                     refine ⟨by rw [r8, pk_un (by decide), pk_un (by decide)]; exact hR.1, by rw [r8, pk_un (by decide), pk_us]; rfl, fun _ => by rw [r8, pk_us]; rfl, fun _ j hj => absurd hj (Nat.not_lt_zero j), hR.2.2.2.2.keep (fun i h1 h2 => by rw [e79, va_up_ne _ _ (by omega), e74, va_up_ne _ _ (by omega)])⟩)
              · exact absurd b69 (by decide)
            · replace b59 : ¬ 4 ≤ ln_r (ps_l p) := fun z => b59 ((nI_leI (a := 4) (by decide) (by omega)).mpr z)
              refine ro_iconst (v := 1) dX3_opensPart_62 (by decide) ?_
              refine ro_goto 67 dX3_opensPart_63 (by decide) ?_
              refine ro_istore_n2 dX3_opensPart_67 (Nat.le_of_ble_eq_true rfl) rfl ?_
              refine ro_iload_n dX3_opensPart_68 rfl rfl ?_
              refine ro_if_eq 82 dX3_opensPart_69 (by decide) (fun b69 => ?_) (fun b69 => ?_)
              · exact absurd b69 (by decide)
              · refine ro_aload_n dX3_opensPart_72 rfl rfl ?_
                refine ro_iload_n dX3_opensPart_73 rfl rfl ?_
                refine pf_X3_part  in_X3_opensPart_X3 lk_X3_opensPart_29  dX3_opensPart_74 (fun M74 e74 => ?_)
                refine ro_aload_n dX3_opensPart_77 rfl rfl ?_
                refine ro_iconst (v := 0) dX3_opensPart_78 (by decide) ?_
                refine pf_X3_figuresRead  in_X3_opensPart_X3 lk_X3_opensPart_44  dX3_opensPart_79 (fun M79 e79 => ?_)
                refine ro_iload_n dX3_opensPart_82 rfl rfl ?_
                refine ro_zret rfl rfl dX3_opensPart_83 ?_
                first
                  | exact ⟨⟨false, rfl, fun z => absurd z (by decide), fun _ => ⟨by unfold ps_opens; omega, rfl⟩⟩, OnlyRd.rf, rfl⟩
                  | (have q1 : OnlyRd M M79 := (OnlyRd.up e74 (Or.inl rfl)).tr (OnlyRd.up e79 (Or.inl rfl))
                     refine ⟨⟨true, rfl, fun _ => ⟨by unfold ps_opens; omega, ?_⟩, fun z => absurd z (by decide)⟩, q1, rfl⟩
                     have r8 : M79 8 = upd (upd (M 8) 3 (nI x)) 4 0 := by rw [e79, va_up_self, e74, va_up_self]
                     refine ⟨by rw [r8, pk_un (by decide), pk_un (by decide)]; exact hR.1, by rw [r8, pk_un (by decide), pk_us]; rfl, fun _ => by rw [r8, pk_us]; rfl, fun _ j hj => absurd hj (Nat.not_lt_zero j), hR.2.2.2.2.keep (fun i h1 h2 => by rw [e79, va_up_ne _ _ (by omega), e74, va_up_ne _ _ (by omega)])⟩)
  · replace b3 : x = 72 := (nI_eq (b := 72) (by omega) (by decide)).mp b3
    refine ro_aload_n dX3_opensPart_6 rfl rfl ?_
    refine gf_X3_draft  in_X3_opensPart_X3 lk_X3_opensPart_12 dX3_opensPart_7 ?_
    refine gf_X2_houses ln_23 in_X3_opensPart_X2 lk_X3_opensPart_50 dX3_opensPart_10 ?_
    rw [hR.2.2.2.2.1]
    refine ro_iconst (v := 5) dX3_opensPart_13 (by decide) ?_
    refine ro_icmp_lt 62 dX3_opensPart_14 (by decide) (fun b14 => ?_) (fun b14 => ?_)
    · replace b14 : ln_n (ps_l p) < 5 := (nI_ltI (b := 5) (by omega) (by decide)).mp b14
      refine ro_iconst (v := 1) dX3_opensPart_62 (by decide) ?_
      refine ro_goto 67 dX3_opensPart_63 (by decide) ?_
      refine ro_istore_n2 dX3_opensPart_67 (Nat.le_of_ble_eq_true rfl) rfl ?_
      refine ro_iload_n dX3_opensPart_68 rfl rfl ?_
      refine ro_if_eq 82 dX3_opensPart_69 (by decide) (fun b69 => ?_) (fun b69 => ?_)
      · exact absurd b69 (by decide)
      · refine ro_aload_n dX3_opensPart_72 rfl rfl ?_
        refine ro_iload_n dX3_opensPart_73 rfl rfl ?_
        refine pf_X3_part  in_X3_opensPart_X3 lk_X3_opensPart_29  dX3_opensPart_74 (fun M74 e74 => ?_)
        refine ro_aload_n dX3_opensPart_77 rfl rfl ?_
        refine ro_iconst (v := 0) dX3_opensPart_78 (by decide) ?_
        refine pf_X3_figuresRead  in_X3_opensPart_X3 lk_X3_opensPart_44  dX3_opensPart_79 (fun M79 e79 => ?_)
        refine ro_iload_n dX3_opensPart_82 rfl rfl ?_
        refine ro_zret rfl rfl dX3_opensPart_83 ?_
        first
          | exact ⟨⟨false, rfl, fun z => absurd z (by decide), fun _ => ⟨by unfold ps_opens; omega, rfl⟩⟩, OnlyRd.rf, rfl⟩
          | (have q1 : OnlyRd M M79 := (OnlyRd.up e74 (Or.inl rfl)).tr (OnlyRd.up e79 (Or.inl rfl))
             refine ⟨⟨true, rfl, fun _ => ⟨by unfold ps_opens; omega, ?_⟩, fun z => absurd z (by decide)⟩, q1, rfl⟩
             have r8 : M79 8 = upd (upd (M 8) 3 (nI x)) 4 0 := by rw [e79, va_up_self, e74, va_up_self]
             refine ⟨by rw [r8, pk_un (by decide), pk_un (by decide)]; exact hR.1, by rw [r8, pk_un (by decide), pk_us]; rfl, fun _ => by rw [r8, pk_us]; rfl, fun _ j hj => absurd hj (Nat.not_lt_zero j), hR.2.2.2.2.keep (fun i h1 h2 => by rw [e79, va_up_ne _ _ (by omega), e74, va_up_ne _ _ (by omega)])⟩)
    · replace b14 : ¬ ln_n (ps_l p) < 5 := fun z => b14 ((nI_ltI (b := 5) (by omega) (by decide)).mpr z)
      refine ro_iload_n dX3_opensPart_17 rfl rfl ?_
      refine ro_bipush (v := 83) dX3_opensPart_18 (by decide) ?_
      refine ro_icmp_ne 45 dX3_opensPart_20 (by decide) (fun b20 => ?_) (fun b20 => ?_)
      · replace b20 : ¬ x = 83 := fun z => b20 (by rw [z]; rfl)
        refine ro_iload_n dX3_opensPart_45 rfl rfl ?_
        refine ro_bipush (v := 82) dX3_opensPart_46 (by decide) ?_
        refine ro_icmp_ne 66 dX3_opensPart_48 (by decide) (fun b48 => ?_) (fun b48 => ?_)
        · replace b48 : ¬ x = 82 := fun z => b48 (by rw [z]; rfl)
          refine ro_iconst (v := 0) dX3_opensPart_66 (by decide) ?_
          refine ro_istore_n2 dX3_opensPart_67 (Nat.le_of_ble_eq_true rfl) rfl ?_
          refine ro_iload_n dX3_opensPart_68 rfl rfl ?_
          refine ro_if_eq 82 dX3_opensPart_69 (by decide) (fun b69 => ?_) (fun b69 => ?_)
          · refine ro_iload_n dX3_opensPart_82 rfl rfl ?_
            refine ro_zret rfl rfl dX3_opensPart_83 ?_
            first
              | exact ⟨⟨false, rfl, fun z => absurd z (by decide), fun _ => ⟨by unfold ps_opens; omega, rfl⟩⟩, OnlyRd.rf, rfl⟩
              | (have q1 : OnlyRd M M79 := (OnlyRd.up e74 (Or.inl rfl)).tr (OnlyRd.up e79 (Or.inl rfl))
                 refine ⟨⟨true, rfl, fun _ => ⟨by unfold ps_opens; omega, ?_⟩, fun z => absurd z (by decide)⟩, q1, rfl⟩
                 have r8 : M79 8 = upd (upd (M 8) 3 (nI x)) 4 0 := by rw [e79, va_up_self, e74, va_up_self]
                 refine ⟨by rw [r8, pk_un (by decide), pk_un (by decide)]; exact hR.1, by rw [r8, pk_un (by decide), pk_us]; rfl, fun _ => by rw [r8, pk_us]; rfl, fun _ j hj => absurd hj (Nat.not_lt_zero j), hR.2.2.2.2.keep (fun i h1 h2 => by rw [e79, va_up_ne _ _ (by omega), e74, va_up_ne _ _ (by omega)])⟩)
          · exact absurd b69 (by decide)
        · replace b48 : x = 82 := (nI_eq (b := 82) (by omega) (by decide)).mp b48
          refine ro_aload_n dX3_opensPart_51 rfl rfl ?_
          refine gf_X3_draft  in_X3_opensPart_X3 lk_X3_opensPart_12 dX3_opensPart_52 ?_
          refine gf_X2_rains ln_23 in_X3_opensPart_X2 lk_X3_opensPart_56 dX3_opensPart_55 ?_
          rw [hR.2.2.2.2.2.2.1]
          refine ro_iconst (v := 4) dX3_opensPart_58 (by decide) ?_
          refine ro_icmp_ge 66 dX3_opensPart_59 (by decide) (fun b59 => ?_) (fun b59 => ?_)
          · replace b59 : 4 ≤ ln_r (ps_l p) := (nI_leI (a := 4) (by decide) (by omega)).mp b59
            refine ro_iconst (v := 0) dX3_opensPart_66 (by decide) ?_
            refine ro_istore_n2 dX3_opensPart_67 (Nat.le_of_ble_eq_true rfl) rfl ?_
            refine ro_iload_n dX3_opensPart_68 rfl rfl ?_
            refine ro_if_eq 82 dX3_opensPart_69 (by decide) (fun b69 => ?_) (fun b69 => ?_)
            · refine ro_iload_n dX3_opensPart_82 rfl rfl ?_
              refine ro_zret rfl rfl dX3_opensPart_83 ?_
              first
                | exact ⟨⟨false, rfl, fun z => absurd z (by decide), fun _ => ⟨by unfold ps_opens; omega, rfl⟩⟩, OnlyRd.rf, rfl⟩
                | (have q1 : OnlyRd M M79 := (OnlyRd.up e74 (Or.inl rfl)).tr (OnlyRd.up e79 (Or.inl rfl))
                   refine ⟨⟨true, rfl, fun _ => ⟨by unfold ps_opens; omega, ?_⟩, fun z => absurd z (by decide)⟩, q1, rfl⟩
                   have r8 : M79 8 = upd (upd (M 8) 3 (nI x)) 4 0 := by rw [e79, va_up_self, e74, va_up_self]
                   refine ⟨by rw [r8, pk_un (by decide), pk_un (by decide)]; exact hR.1, by rw [r8, pk_un (by decide), pk_us]; rfl, fun _ => by rw [r8, pk_us]; rfl, fun _ j hj => absurd hj (Nat.not_lt_zero j), hR.2.2.2.2.keep (fun i h1 h2 => by rw [e79, va_up_ne _ _ (by omega), e74, va_up_ne _ _ (by omega)])⟩)
            · exact absurd b69 (by decide)
          · replace b59 : ¬ 4 ≤ ln_r (ps_l p) := fun z => b59 ((nI_leI (a := 4) (by decide) (by omega)).mpr z)
            refine ro_iconst (v := 1) dX3_opensPart_62 (by decide) ?_
            refine ro_goto 67 dX3_opensPart_63 (by decide) ?_
            refine ro_istore_n2 dX3_opensPart_67 (Nat.le_of_ble_eq_true rfl) rfl ?_
            refine ro_iload_n dX3_opensPart_68 rfl rfl ?_
            refine ro_if_eq 82 dX3_opensPart_69 (by decide) (fun b69 => ?_) (fun b69 => ?_)
            · exact absurd b69 (by decide)
            · refine ro_aload_n dX3_opensPart_72 rfl rfl ?_
              refine ro_iload_n dX3_opensPart_73 rfl rfl ?_
              refine pf_X3_part  in_X3_opensPart_X3 lk_X3_opensPart_29  dX3_opensPart_74 (fun M74 e74 => ?_)
              refine ro_aload_n dX3_opensPart_77 rfl rfl ?_
              refine ro_iconst (v := 0) dX3_opensPart_78 (by decide) ?_
              refine pf_X3_figuresRead  in_X3_opensPart_X3 lk_X3_opensPart_44  dX3_opensPart_79 (fun M79 e79 => ?_)
              refine ro_iload_n dX3_opensPart_82 rfl rfl ?_
              refine ro_zret rfl rfl dX3_opensPart_83 ?_
              first
                | exact ⟨⟨false, rfl, fun z => absurd z (by decide), fun _ => ⟨by unfold ps_opens; omega, rfl⟩⟩, OnlyRd.rf, rfl⟩
                | (have q1 : OnlyRd M M79 := (OnlyRd.up e74 (Or.inl rfl)).tr (OnlyRd.up e79 (Or.inl rfl))
                   refine ⟨⟨true, rfl, fun _ => ⟨by unfold ps_opens; omega, ?_⟩, fun z => absurd z (by decide)⟩, q1, rfl⟩
                   have r8 : M79 8 = upd (upd (M 8) 3 (nI x)) 4 0 := by rw [e79, va_up_self, e74, va_up_self]
                   refine ⟨by rw [r8, pk_un (by decide), pk_un (by decide)]; exact hR.1, by rw [r8, pk_un (by decide), pk_us]; rfl, fun _ => by rw [r8, pk_us]; rfl, fun _ j hj => absurd hj (Nat.not_lt_zero j), hR.2.2.2.2.keep (fun i h1 h2 => by rw [e79, va_up_ne _ _ (by omega), e74, va_up_ne _ _ (by omega)])⟩)
      · replace b20 : x = 83 := (nI_eq (b := 83) (by omega) (by decide)).mp b20
        refine ro_aload_n dX3_opensPart_23 rfl rfl ?_
        refine gf_X3_draft  in_X3_opensPart_X3 lk_X3_opensPart_12 dX3_opensPart_24 ?_
        refine gf_X2_houses ln_23 in_X3_opensPart_X2 lk_X3_opensPart_50 dX3_opensPart_27 ?_
        rw [hR.2.2.2.2.1]
        refine ro_if_le 45 dX3_opensPart_30 (by decide) (fun b30 => ?_) (fun b30 => ?_)
        · rw [nI_le0 (by omega)] at b30
          refine ro_iload_n dX3_opensPart_45 rfl rfl ?_
          refine ro_bipush (v := 82) dX3_opensPart_46 (by decide) ?_
          refine ro_icmp_ne 66 dX3_opensPart_48 (by decide) (fun b48 => ?_) (fun b48 => ?_)
          · replace b48 : ¬ x = 82 := fun z => b48 (by rw [z]; rfl)
            refine ro_iconst (v := 0) dX3_opensPart_66 (by decide) ?_
            refine ro_istore_n2 dX3_opensPart_67 (Nat.le_of_ble_eq_true rfl) rfl ?_
            refine ro_iload_n dX3_opensPart_68 rfl rfl ?_
            refine ro_if_eq 82 dX3_opensPart_69 (by decide) (fun b69 => ?_) (fun b69 => ?_)
            · refine ro_iload_n dX3_opensPart_82 rfl rfl ?_
              refine ro_zret rfl rfl dX3_opensPart_83 ?_
              first
                | exact ⟨⟨false, rfl, fun z => absurd z (by decide), fun _ => ⟨by unfold ps_opens; omega, rfl⟩⟩, OnlyRd.rf, rfl⟩
                | (have q1 : OnlyRd M M79 := (OnlyRd.up e74 (Or.inl rfl)).tr (OnlyRd.up e79 (Or.inl rfl))
                   refine ⟨⟨true, rfl, fun _ => ⟨by unfold ps_opens; omega, ?_⟩, fun z => absurd z (by decide)⟩, q1, rfl⟩
                   have r8 : M79 8 = upd (upd (M 8) 3 (nI x)) 4 0 := by rw [e79, va_up_self, e74, va_up_self]
                   refine ⟨by rw [r8, pk_un (by decide), pk_un (by decide)]; exact hR.1, by rw [r8, pk_un (by decide), pk_us]; rfl, fun _ => by rw [r8, pk_us]; rfl, fun _ j hj => absurd hj (Nat.not_lt_zero j), hR.2.2.2.2.keep (fun i h1 h2 => by rw [e79, va_up_ne _ _ (by omega), e74, va_up_ne _ _ (by omega)])⟩)
            · exact absurd b69 (by decide)
          · replace b48 : x = 82 := (nI_eq (b := 82) (by omega) (by decide)).mp b48
            refine ro_aload_n dX3_opensPart_51 rfl rfl ?_
            refine gf_X3_draft  in_X3_opensPart_X3 lk_X3_opensPart_12 dX3_opensPart_52 ?_
            refine gf_X2_rains ln_23 in_X3_opensPart_X2 lk_X3_opensPart_56 dX3_opensPart_55 ?_
            rw [hR.2.2.2.2.2.2.1]
            refine ro_iconst (v := 4) dX3_opensPart_58 (by decide) ?_
            refine ro_icmp_ge 66 dX3_opensPart_59 (by decide) (fun b59 => ?_) (fun b59 => ?_)
            · replace b59 : 4 ≤ ln_r (ps_l p) := (nI_leI (a := 4) (by decide) (by omega)).mp b59
              refine ro_iconst (v := 0) dX3_opensPart_66 (by decide) ?_
              refine ro_istore_n2 dX3_opensPart_67 (Nat.le_of_ble_eq_true rfl) rfl ?_
              refine ro_iload_n dX3_opensPart_68 rfl rfl ?_
              refine ro_if_eq 82 dX3_opensPart_69 (by decide) (fun b69 => ?_) (fun b69 => ?_)
              · refine ro_iload_n dX3_opensPart_82 rfl rfl ?_
                refine ro_zret rfl rfl dX3_opensPart_83 ?_
                first
                  | exact ⟨⟨false, rfl, fun z => absurd z (by decide), fun _ => ⟨by unfold ps_opens; omega, rfl⟩⟩, OnlyRd.rf, rfl⟩
                  | (have q1 : OnlyRd M M79 := (OnlyRd.up e74 (Or.inl rfl)).tr (OnlyRd.up e79 (Or.inl rfl))
                     refine ⟨⟨true, rfl, fun _ => ⟨by unfold ps_opens; omega, ?_⟩, fun z => absurd z (by decide)⟩, q1, rfl⟩
                     have r8 : M79 8 = upd (upd (M 8) 3 (nI x)) 4 0 := by rw [e79, va_up_self, e74, va_up_self]
                     refine ⟨by rw [r8, pk_un (by decide), pk_un (by decide)]; exact hR.1, by rw [r8, pk_un (by decide), pk_us]; rfl, fun _ => by rw [r8, pk_us]; rfl, fun _ j hj => absurd hj (Nat.not_lt_zero j), hR.2.2.2.2.keep (fun i h1 h2 => by rw [e79, va_up_ne _ _ (by omega), e74, va_up_ne _ _ (by omega)])⟩)
              · exact absurd b69 (by decide)
            · replace b59 : ¬ 4 ≤ ln_r (ps_l p) := fun z => b59 ((nI_leI (a := 4) (by decide) (by omega)).mpr z)
              refine ro_iconst (v := 1) dX3_opensPart_62 (by decide) ?_
              refine ro_goto 67 dX3_opensPart_63 (by decide) ?_
              refine ro_istore_n2 dX3_opensPart_67 (Nat.le_of_ble_eq_true rfl) rfl ?_
              refine ro_iload_n dX3_opensPart_68 rfl rfl ?_
              refine ro_if_eq 82 dX3_opensPart_69 (by decide) (fun b69 => ?_) (fun b69 => ?_)
              · exact absurd b69 (by decide)
              · refine ro_aload_n dX3_opensPart_72 rfl rfl ?_
                refine ro_iload_n dX3_opensPart_73 rfl rfl ?_
                refine pf_X3_part  in_X3_opensPart_X3 lk_X3_opensPart_29  dX3_opensPart_74 (fun M74 e74 => ?_)
                refine ro_aload_n dX3_opensPart_77 rfl rfl ?_
                refine ro_iconst (v := 0) dX3_opensPart_78 (by decide) ?_
                refine pf_X3_figuresRead  in_X3_opensPart_X3 lk_X3_opensPart_44  dX3_opensPart_79 (fun M79 e79 => ?_)
                refine ro_iload_n dX3_opensPart_82 rfl rfl ?_
                refine ro_zret rfl rfl dX3_opensPart_83 ?_
                first
                  | exact ⟨⟨false, rfl, fun z => absurd z (by decide), fun _ => ⟨by unfold ps_opens; omega, rfl⟩⟩, OnlyRd.rf, rfl⟩
                  | (have q1 : OnlyRd M M79 := (OnlyRd.up e74 (Or.inl rfl)).tr (OnlyRd.up e79 (Or.inl rfl))
                     refine ⟨⟨true, rfl, fun _ => ⟨by unfold ps_opens; omega, ?_⟩, fun z => absurd z (by decide)⟩, q1, rfl⟩
                     have r8 : M79 8 = upd (upd (M 8) 3 (nI x)) 4 0 := by rw [e79, va_up_self, e74, va_up_self]
                     refine ⟨by rw [r8, pk_un (by decide), pk_un (by decide)]; exact hR.1, by rw [r8, pk_un (by decide), pk_us]; rfl, fun _ => by rw [r8, pk_us]; rfl, fun _ j hj => absurd hj (Nat.not_lt_zero j), hR.2.2.2.2.keep (fun i h1 h2 => by rw [e79, va_up_ne _ _ (by omega), e74, va_up_ne _ _ (by omega)])⟩)
        · rw [nI_le0 (by omega)] at b30
          refine ro_aload_n dX3_opensPart_33 rfl rfl ?_
          refine gf_X3_draft  in_X3_opensPart_X3 lk_X3_opensPart_12 dX3_opensPart_34 ?_
          refine gf_X2_sayings ln_23 in_X3_opensPart_X2 lk_X3_opensPart_53 dX3_opensPart_37 ?_
          rw [hR.2.2.2.2.2.1]
          refine ro_bipush (v := 8) dX3_opensPart_40 (by decide) ?_
          refine ro_icmp_lt 62 dX3_opensPart_42 (by decide) (fun b42 => ?_) (fun b42 => ?_)
          · replace b42 : ln_s (ps_l p) < 8 := (nI_ltI (b := 8) (by omega) (by decide)).mp b42
            refine ro_iconst (v := 1) dX3_opensPart_62 (by decide) ?_
            refine ro_goto 67 dX3_opensPart_63 (by decide) ?_
            refine ro_istore_n2 dX3_opensPart_67 (Nat.le_of_ble_eq_true rfl) rfl ?_
            refine ro_iload_n dX3_opensPart_68 rfl rfl ?_
            refine ro_if_eq 82 dX3_opensPart_69 (by decide) (fun b69 => ?_) (fun b69 => ?_)
            · exact absurd b69 (by decide)
            · refine ro_aload_n dX3_opensPart_72 rfl rfl ?_
              refine ro_iload_n dX3_opensPart_73 rfl rfl ?_
              refine pf_X3_part  in_X3_opensPart_X3 lk_X3_opensPart_29  dX3_opensPart_74 (fun M74 e74 => ?_)
              refine ro_aload_n dX3_opensPart_77 rfl rfl ?_
              refine ro_iconst (v := 0) dX3_opensPart_78 (by decide) ?_
              refine pf_X3_figuresRead  in_X3_opensPart_X3 lk_X3_opensPart_44  dX3_opensPart_79 (fun M79 e79 => ?_)
              refine ro_iload_n dX3_opensPart_82 rfl rfl ?_
              refine ro_zret rfl rfl dX3_opensPart_83 ?_
              first
                | exact ⟨⟨false, rfl, fun z => absurd z (by decide), fun _ => ⟨by unfold ps_opens; omega, rfl⟩⟩, OnlyRd.rf, rfl⟩
                | (have q1 : OnlyRd M M79 := (OnlyRd.up e74 (Or.inl rfl)).tr (OnlyRd.up e79 (Or.inl rfl))
                   refine ⟨⟨true, rfl, fun _ => ⟨by unfold ps_opens; omega, ?_⟩, fun z => absurd z (by decide)⟩, q1, rfl⟩
                   have r8 : M79 8 = upd (upd (M 8) 3 (nI x)) 4 0 := by rw [e79, va_up_self, e74, va_up_self]
                   refine ⟨by rw [r8, pk_un (by decide), pk_un (by decide)]; exact hR.1, by rw [r8, pk_un (by decide), pk_us]; rfl, fun _ => by rw [r8, pk_us]; rfl, fun _ j hj => absurd hj (Nat.not_lt_zero j), hR.2.2.2.2.keep (fun i h1 h2 => by rw [e79, va_up_ne _ _ (by omega), e74, va_up_ne _ _ (by omega)])⟩)
          · replace b42 : ¬ ln_s (ps_l p) < 8 := fun z => b42 ((nI_ltI (b := 8) (by omega) (by decide)).mpr z)
            refine ro_iload_n dX3_opensPart_45 rfl rfl ?_
            refine ro_bipush (v := 82) dX3_opensPart_46 (by decide) ?_
            refine ro_icmp_ne 66 dX3_opensPart_48 (by decide) (fun b48 => ?_) (fun b48 => ?_)
            · replace b48 : ¬ x = 82 := fun z => b48 (by rw [z]; rfl)
              refine ro_iconst (v := 0) dX3_opensPart_66 (by decide) ?_
              refine ro_istore_n2 dX3_opensPart_67 (Nat.le_of_ble_eq_true rfl) rfl ?_
              refine ro_iload_n dX3_opensPart_68 rfl rfl ?_
              refine ro_if_eq 82 dX3_opensPart_69 (by decide) (fun b69 => ?_) (fun b69 => ?_)
              · refine ro_iload_n dX3_opensPart_82 rfl rfl ?_
                refine ro_zret rfl rfl dX3_opensPart_83 ?_
                first
                  | exact ⟨⟨false, rfl, fun z => absurd z (by decide), fun _ => ⟨by unfold ps_opens; omega, rfl⟩⟩, OnlyRd.rf, rfl⟩
                  | (have q1 : OnlyRd M M79 := (OnlyRd.up e74 (Or.inl rfl)).tr (OnlyRd.up e79 (Or.inl rfl))
                     refine ⟨⟨true, rfl, fun _ => ⟨by unfold ps_opens; omega, ?_⟩, fun z => absurd z (by decide)⟩, q1, rfl⟩
                     have r8 : M79 8 = upd (upd (M 8) 3 (nI x)) 4 0 := by rw [e79, va_up_self, e74, va_up_self]
                     refine ⟨by rw [r8, pk_un (by decide), pk_un (by decide)]; exact hR.1, by rw [r8, pk_un (by decide), pk_us]; rfl, fun _ => by rw [r8, pk_us]; rfl, fun _ j hj => absurd hj (Nat.not_lt_zero j), hR.2.2.2.2.keep (fun i h1 h2 => by rw [e79, va_up_ne _ _ (by omega), e74, va_up_ne _ _ (by omega)])⟩)
              · exact absurd b69 (by decide)
            · replace b48 : x = 82 := (nI_eq (b := 82) (by omega) (by decide)).mp b48
              refine ro_aload_n dX3_opensPart_51 rfl rfl ?_
              refine gf_X3_draft  in_X3_opensPart_X3 lk_X3_opensPart_12 dX3_opensPart_52 ?_
              refine gf_X2_rains ln_23 in_X3_opensPart_X2 lk_X3_opensPart_56 dX3_opensPart_55 ?_
              rw [hR.2.2.2.2.2.2.1]
              refine ro_iconst (v := 4) dX3_opensPart_58 (by decide) ?_
              refine ro_icmp_ge 66 dX3_opensPart_59 (by decide) (fun b59 => ?_) (fun b59 => ?_)
              · replace b59 : 4 ≤ ln_r (ps_l p) := (nI_leI (a := 4) (by decide) (by omega)).mp b59
                refine ro_iconst (v := 0) dX3_opensPart_66 (by decide) ?_
                refine ro_istore_n2 dX3_opensPart_67 (Nat.le_of_ble_eq_true rfl) rfl ?_
                refine ro_iload_n dX3_opensPart_68 rfl rfl ?_
                refine ro_if_eq 82 dX3_opensPart_69 (by decide) (fun b69 => ?_) (fun b69 => ?_)
                · refine ro_iload_n dX3_opensPart_82 rfl rfl ?_
                  refine ro_zret rfl rfl dX3_opensPart_83 ?_
                  first
                    | exact ⟨⟨false, rfl, fun z => absurd z (by decide), fun _ => ⟨by unfold ps_opens; omega, rfl⟩⟩, OnlyRd.rf, rfl⟩
                    | (have q1 : OnlyRd M M79 := (OnlyRd.up e74 (Or.inl rfl)).tr (OnlyRd.up e79 (Or.inl rfl))
                       refine ⟨⟨true, rfl, fun _ => ⟨by unfold ps_opens; omega, ?_⟩, fun z => absurd z (by decide)⟩, q1, rfl⟩
                       have r8 : M79 8 = upd (upd (M 8) 3 (nI x)) 4 0 := by rw [e79, va_up_self, e74, va_up_self]
                       refine ⟨by rw [r8, pk_un (by decide), pk_un (by decide)]; exact hR.1, by rw [r8, pk_un (by decide), pk_us]; rfl, fun _ => by rw [r8, pk_us]; rfl, fun _ j hj => absurd hj (Nat.not_lt_zero j), hR.2.2.2.2.keep (fun i h1 h2 => by rw [e79, va_up_ne _ _ (by omega), e74, va_up_ne _ _ (by omega)])⟩)
                · exact absurd b69 (by decide)
              · replace b59 : ¬ 4 ≤ ln_r (ps_l p) := fun z => b59 ((nI_leI (a := 4) (by decide) (by omega)).mpr z)
                refine ro_iconst (v := 1) dX3_opensPart_62 (by decide) ?_
                refine ro_goto 67 dX3_opensPart_63 (by decide) ?_
                refine ro_istore_n2 dX3_opensPart_67 (Nat.le_of_ble_eq_true rfl) rfl ?_
                refine ro_iload_n dX3_opensPart_68 rfl rfl ?_
                refine ro_if_eq 82 dX3_opensPart_69 (by decide) (fun b69 => ?_) (fun b69 => ?_)
                · exact absurd b69 (by decide)
                · refine ro_aload_n dX3_opensPart_72 rfl rfl ?_
                  refine ro_iload_n dX3_opensPart_73 rfl rfl ?_
                  refine pf_X3_part  in_X3_opensPart_X3 lk_X3_opensPart_29  dX3_opensPart_74 (fun M74 e74 => ?_)
                  refine ro_aload_n dX3_opensPart_77 rfl rfl ?_
                  refine ro_iconst (v := 0) dX3_opensPart_78 (by decide) ?_
                  refine pf_X3_figuresRead  in_X3_opensPart_X3 lk_X3_opensPart_44  dX3_opensPart_79 (fun M79 e79 => ?_)
                  refine ro_iload_n dX3_opensPart_82 rfl rfl ?_
                  refine ro_zret rfl rfl dX3_opensPart_83 ?_
                  first
                    | exact ⟨⟨false, rfl, fun z => absurd z (by decide), fun _ => ⟨by unfold ps_opens; omega, rfl⟩⟩, OnlyRd.rf, rfl⟩
                    | (have q1 : OnlyRd M M79 := (OnlyRd.up e74 (Or.inl rfl)).tr (OnlyRd.up e79 (Or.inl rfl))
                       refine ⟨⟨true, rfl, fun _ => ⟨by unfold ps_opens; omega, ?_⟩, fun z => absurd z (by decide)⟩, q1, rfl⟩
                       have r8 : M79 8 = upd (upd (M 8) 3 (nI x)) 4 0 := by rw [e79, va_up_self, e74, va_up_self]
                       refine ⟨by rw [r8, pk_un (by decide), pk_un (by decide)]; exact hR.1, by rw [r8, pk_un (by decide), pk_us]; rfl, fun _ => by rw [r8, pk_us]; rfl, fun _ j hj => absurd hj (Nat.not_lt_zero j), hR.2.2.2.2.keep (fun i h1 h2 => by rw [e79, va_up_ne _ _ (by omega), e74, va_up_ne _ _ (by omega)])⟩)
theorem ct_close {g : GT} {M : MM} {L : LL} {p : PS} (hR : ReaderR M p) (hp : ps_p p ≠ 0) (h2 : ps_p p ≤ 255) (h3 : ps_k p ≤ 3) (hH : ps_p p = 72 → ps_k p = 2 → ln_n (ps_l p) < 5) (hS : ps_p p = 83 → ps_k p = 3 → ln_s (ps_l p) < 8) (hN : ps_p p = 82 → ps_k p = 1 → ln_r (ps_l p) < 4) : CTQ g mX3_closePartIfWhole 1 [.ref (dq_A g 8)] M L (fun v M' L' => v = none ∧ ReaderR M' (ps_close p) ∧ OnlyRd M M' ∧ L' = L) := by
  refine ct_of ok_X3_closePartIfWhole (lv := [some (.ref (dq_A g 8))]) rfl (Nat.le_of_ble_eq_true rfl) ?_
  refine ro_aload_n dX3_closePartIfWhole_0 rfl rfl ?_
  refine gf_X3_part  in_X3_closePartIfWhole_X3 lk_X3_closePartIfWhole_29 dX3_closePartIfWhole_1 ?_
  rw [hR.2.1]
  refine ro_bipush (v := 72) dX3_closePartIfWhole_4 (by decide) ?_
  refine ro_icmp_ne 44 dX3_closePartIfWhole_6 (by decide) (fun b6 => ?_) (fun b6 => ?_)
  · replace b6 : ¬ ps_p p = 72 := fun z => b6 (by rw [z]; rfl)
    refine ro_aload_n dX3_closePartIfWhole_44 rfl rfl ?_
    refine gf_X3_part  in_X3_closePartIfWhole_X3 lk_X3_closePartIfWhole_29 dX3_closePartIfWhole_45 ?_
    rw [hR.2.1]
    refine ro_bipush (v := 83) dX3_closePartIfWhole_48 (by decide) ?_
    refine ro_icmp_ne 94 dX3_closePartIfWhole_50 (by decide) (fun b50 => ?_) (fun b50 => ?_)
    · replace b50 : ¬ ps_p p = 83 := fun z => b50 (by rw [z]; rfl)
      refine ro_aload_n dX3_closePartIfWhole_94 rfl rfl ?_
      refine gf_X3_part  in_X3_closePartIfWhole_X3 lk_X3_closePartIfWhole_29 dX3_closePartIfWhole_95 ?_
      rw [hR.2.1]
      refine ro_bipush (v := 82) dX3_closePartIfWhole_98 (by decide) ?_
      refine ro_icmp_ne 129 dX3_closePartIfWhole_100 (by decide) (fun b100 => ?_) (fun b100 => ?_)
      · replace b100 : ¬ ps_p p = 82 := fun z => b100 (by rw [z]; rfl)
        refine ro_vret rfl dX3_closePartIfWhole_129 ?_
        first
          | (have q1 : OnlyRd M M38 := (OnlyRd.ln ho33).tr (OnlyRd.up e38 (Or.inl rfl))
             have r8 : M38 8 = upd (M 8) 3 0 := by rw [e38, va_up_self, ho33 8 (by omega)]
             rw [show ps_close p = _ from ps_cl_H (b := ps_b p) (pt := ps_p p) (k := ps_k p) (f := ps_f p) (l := ps_l p) b6 b14]
             refine ⟨rfl, ⟨by rw [r8, pk_un (by decide)]; exact hR.1, by rw [r8, pk_us]; rfl, fun z => absurd rfl z, fun z => absurd rfl z, hL33.keep (fun i h1 h2 => by rw [e38, va_up_ne _ _ (by omega)])⟩, q1, rfl⟩)
          | (have q1 : OnlyRd M M88 := (OnlyRd.ln ho83).tr (OnlyRd.up e88 (Or.inl rfl))
             have r8 : M88 8 = upd (M 8) 3 0 := by rw [e88, va_up_self, ho83 8 (by omega)]
             rw [show ps_close p = _ from ps_cl_S (b := ps_b p) (pt := ps_p p) (k := ps_k p) (f := ps_f p) (l := ps_l p) b50 b58]
             refine ⟨rfl, ⟨by rw [r8, pk_un (by decide)]; exact hR.1, by rw [r8, pk_us]; rfl, fun z => absurd rfl z, fun z => absurd rfl z, hL83.keep (fun i h1 h2 => by rw [e88, va_up_ne _ _ (by omega)])⟩, q1, rfl⟩)
          | (have q1 : OnlyRd M M126 := (OnlyRd.ln ho121).tr (OnlyRd.up e126 (Or.inl rfl))
             have r8 : M126 8 = upd (M 8) 3 0 := by rw [e126, va_up_self, ho121 8 (by omega)]
             rw [show ps_close p = _ from ps_cl_R (b := ps_b p) (pt := ps_p p) (k := ps_k p) (f := ps_f p) (l := ps_l p) b100 b108]
             refine ⟨rfl, ⟨by rw [r8, pk_un (by decide)]; exact hR.1, by rw [r8, pk_us]; rfl, fun z => absurd rfl z, fun z => absurd rfl z, hL121.keep (fun i h1 h2 => by rw [e126, va_up_ne _ _ (by omega)])⟩, q1, rfl⟩)
          | (rw [show ps_close p = p from ps_cl_N (b := ps_b p) (pt := ps_p p) (k := ps_k p) (f := ps_f p) (l := ps_l p) (by omega) (by omega) (by omega)]
             exact ⟨rfl, hR, OnlyRd.rf, rfl⟩)
      · replace b100 : ps_p p = 82 := (nI_eq (b := 82) (by omega) (by decide)).mp b100
        refine ro_aload_n dX3_closePartIfWhole_103 rfl rfl ?_
        refine gf_X3_figuresRead  in_X3_closePartIfWhole_X3 lk_X3_closePartIfWhole_44 dX3_closePartIfWhole_104 ?_
        rw [hR.2.2.1 hp]
        refine ro_iconst (v := 1) dX3_closePartIfWhole_107 (by decide) ?_
        refine ro_icmp_ne 129 dX3_closePartIfWhole_108 (by decide) (fun b108 => ?_) (fun b108 => ?_)
        · replace b108 : ¬ ps_k p = 1 := fun z => b108 (by rw [z]; rfl)
          refine ro_vret rfl dX3_closePartIfWhole_129 ?_
          first
            | (have q1 : OnlyRd M M38 := (OnlyRd.ln ho33).tr (OnlyRd.up e38 (Or.inl rfl))
               have r8 : M38 8 = upd (M 8) 3 0 := by rw [e38, va_up_self, ho33 8 (by omega)]
               rw [show ps_close p = _ from ps_cl_H (b := ps_b p) (pt := ps_p p) (k := ps_k p) (f := ps_f p) (l := ps_l p) b6 b14]
               refine ⟨rfl, ⟨by rw [r8, pk_un (by decide)]; exact hR.1, by rw [r8, pk_us]; rfl, fun z => absurd rfl z, fun z => absurd rfl z, hL33.keep (fun i h1 h2 => by rw [e38, va_up_ne _ _ (by omega)])⟩, q1, rfl⟩)
            | (have q1 : OnlyRd M M88 := (OnlyRd.ln ho83).tr (OnlyRd.up e88 (Or.inl rfl))
               have r8 : M88 8 = upd (M 8) 3 0 := by rw [e88, va_up_self, ho83 8 (by omega)]
               rw [show ps_close p = _ from ps_cl_S (b := ps_b p) (pt := ps_p p) (k := ps_k p) (f := ps_f p) (l := ps_l p) b50 b58]
               refine ⟨rfl, ⟨by rw [r8, pk_un (by decide)]; exact hR.1, by rw [r8, pk_us]; rfl, fun z => absurd rfl z, fun z => absurd rfl z, hL83.keep (fun i h1 h2 => by rw [e88, va_up_ne _ _ (by omega)])⟩, q1, rfl⟩)
            | (have q1 : OnlyRd M M126 := (OnlyRd.ln ho121).tr (OnlyRd.up e126 (Or.inl rfl))
               have r8 : M126 8 = upd (M 8) 3 0 := by rw [e126, va_up_self, ho121 8 (by omega)]
               rw [show ps_close p = _ from ps_cl_R (b := ps_b p) (pt := ps_p p) (k := ps_k p) (f := ps_f p) (l := ps_l p) b100 b108]
               refine ⟨rfl, ⟨by rw [r8, pk_un (by decide)]; exact hR.1, by rw [r8, pk_us]; rfl, fun z => absurd rfl z, fun z => absurd rfl z, hL121.keep (fun i h1 h2 => by rw [e126, va_up_ne _ _ (by omega)])⟩, q1, rfl⟩)
            | (rw [show ps_close p = p from ps_cl_N (b := ps_b p) (pt := ps_p p) (k := ps_k p) (f := ps_f p) (l := ps_l p) (by omega) (by omega) (by omega)]
               exact ⟨rfl, hR, OnlyRd.rf, rfl⟩)
        · replace b108 : ps_k p = 1 := (nI_eq (b := 1) (by omega) (by decide)).mp b108
          refine ro_aload_n dX3_closePartIfWhole_111 rfl rfl ?_
          refine gf_X3_draft  in_X3_closePartIfWhole_X3 lk_X3_closePartIfWhole_12 dX3_closePartIfWhole_112 ?_
          refine ro_aload_n dX3_closePartIfWhole_115 rfl rfl ?_
          refine gf_X3_figures  in_X3_closePartIfWhole_X3 lk_X3_closePartIfWhole_18 dX3_closePartIfWhole_116 ?_
          refine ro_iconst (v := 0) dX3_closePartIfWhole_119 (by decide) ?_
          refine ro_ai ar_9 (k := 0) rfl (by omega) dX3_closePartIfWhole_120 ?_
          rw [hR.2.2.2.1 hp 0 (by omega)]
          refine ro_callV1Q ok_X2_addRain (ct_addRain hR.2.2.2.2 (hN b100 b108)) (ce_X2 ln_23) rfl rfl gX3_closePartIfWhole_X2_addRain (Nat.le_of_ble_eq_true rfl) (Nat.le_of_ble_eq_true rfl) dX3_closePartIfWhole_121 (fun v121 M121 L121 q121 => ?_)
          obtain ⟨rfl, hL121, ho121, rfl⟩ := q121
          refine ro_aload_n dX3_closePartIfWhole_124 rfl rfl ?_
          refine ro_iconst (v := 0) dX3_closePartIfWhole_125 (by decide) ?_
          refine pf_X3_part  in_X3_closePartIfWhole_X3 lk_X3_closePartIfWhole_29  dX3_closePartIfWhole_126 (fun M126 e126 => ?_)
          refine ro_vret rfl dX3_closePartIfWhole_129 ?_
          first
            | (have q1 : OnlyRd M M38 := (OnlyRd.ln ho33).tr (OnlyRd.up e38 (Or.inl rfl))
               have r8 : M38 8 = upd (M 8) 3 0 := by rw [e38, va_up_self, ho33 8 (by omega)]
               rw [show ps_close p = _ from ps_cl_H (b := ps_b p) (pt := ps_p p) (k := ps_k p) (f := ps_f p) (l := ps_l p) b6 b14]
               refine ⟨rfl, ⟨by rw [r8, pk_un (by decide)]; exact hR.1, by rw [r8, pk_us]; rfl, fun z => absurd rfl z, fun z => absurd rfl z, hL33.keep (fun i h1 h2 => by rw [e38, va_up_ne _ _ (by omega)])⟩, q1, rfl⟩)
            | (have q1 : OnlyRd M M88 := (OnlyRd.ln ho83).tr (OnlyRd.up e88 (Or.inl rfl))
               have r8 : M88 8 = upd (M 8) 3 0 := by rw [e88, va_up_self, ho83 8 (by omega)]
               rw [show ps_close p = _ from ps_cl_S (b := ps_b p) (pt := ps_p p) (k := ps_k p) (f := ps_f p) (l := ps_l p) b50 b58]
               refine ⟨rfl, ⟨by rw [r8, pk_un (by decide)]; exact hR.1, by rw [r8, pk_us]; rfl, fun z => absurd rfl z, fun z => absurd rfl z, hL83.keep (fun i h1 h2 => by rw [e88, va_up_ne _ _ (by omega)])⟩, q1, rfl⟩)
            | (have q1 : OnlyRd M M126 := (OnlyRd.ln ho121).tr (OnlyRd.up e126 (Or.inl rfl))
               have r8 : M126 8 = upd (M 8) 3 0 := by rw [e126, va_up_self, ho121 8 (by omega)]
               rw [show ps_close p = _ from ps_cl_R (b := ps_b p) (pt := ps_p p) (k := ps_k p) (f := ps_f p) (l := ps_l p) b100 b108]
               refine ⟨rfl, ⟨by rw [r8, pk_un (by decide)]; exact hR.1, by rw [r8, pk_us]; rfl, fun z => absurd rfl z, fun z => absurd rfl z, hL121.keep (fun i h1 h2 => by rw [e126, va_up_ne _ _ (by omega)])⟩, q1, rfl⟩)
            | (rw [show ps_close p = p from ps_cl_N (b := ps_b p) (pt := ps_p p) (k := ps_k p) (f := ps_f p) (l := ps_l p) (by omega) (by omega) (by omega)]
               exact ⟨rfl, hR, OnlyRd.rf, rfl⟩)
    · replace b50 : ps_p p = 83 := (nI_eq (b := 83) (by omega) (by decide)).mp b50
      refine ro_aload_n dX3_closePartIfWhole_53 rfl rfl ?_
      refine gf_X3_figuresRead  in_X3_closePartIfWhole_X3 lk_X3_closePartIfWhole_44 dX3_closePartIfWhole_54 ?_
      rw [hR.2.2.1 hp]
      refine ro_iconst (v := 3) dX3_closePartIfWhole_57 (by decide) ?_
      refine ro_icmp_ne 94 dX3_closePartIfWhole_58 (by decide) (fun b58 => ?_) (fun b58 => ?_)
      · replace b58 : ¬ ps_k p = 3 := fun z => b58 (by rw [z]; rfl)
        refine ro_aload_n dX3_closePartIfWhole_94 rfl rfl ?_
        refine gf_X3_part  in_X3_closePartIfWhole_X3 lk_X3_closePartIfWhole_29 dX3_closePartIfWhole_95 ?_
        rw [hR.2.1]
        refine ro_bipush (v := 82) dX3_closePartIfWhole_98 (by decide) ?_
        refine ro_icmp_ne 129 dX3_closePartIfWhole_100 (by decide) (fun b100 => ?_) (fun b100 => ?_)
        · replace b100 : ¬ ps_p p = 82 := fun z => b100 (by rw [z]; rfl)
          refine ro_vret rfl dX3_closePartIfWhole_129 ?_
          first
            | (have q1 : OnlyRd M M38 := (OnlyRd.ln ho33).tr (OnlyRd.up e38 (Or.inl rfl))
               have r8 : M38 8 = upd (M 8) 3 0 := by rw [e38, va_up_self, ho33 8 (by omega)]
               rw [show ps_close p = _ from ps_cl_H (b := ps_b p) (pt := ps_p p) (k := ps_k p) (f := ps_f p) (l := ps_l p) b6 b14]
               refine ⟨rfl, ⟨by rw [r8, pk_un (by decide)]; exact hR.1, by rw [r8, pk_us]; rfl, fun z => absurd rfl z, fun z => absurd rfl z, hL33.keep (fun i h1 h2 => by rw [e38, va_up_ne _ _ (by omega)])⟩, q1, rfl⟩)
            | (have q1 : OnlyRd M M88 := (OnlyRd.ln ho83).tr (OnlyRd.up e88 (Or.inl rfl))
               have r8 : M88 8 = upd (M 8) 3 0 := by rw [e88, va_up_self, ho83 8 (by omega)]
               rw [show ps_close p = _ from ps_cl_S (b := ps_b p) (pt := ps_p p) (k := ps_k p) (f := ps_f p) (l := ps_l p) b50 b58]
               refine ⟨rfl, ⟨by rw [r8, pk_un (by decide)]; exact hR.1, by rw [r8, pk_us]; rfl, fun z => absurd rfl z, fun z => absurd rfl z, hL83.keep (fun i h1 h2 => by rw [e88, va_up_ne _ _ (by omega)])⟩, q1, rfl⟩)
            | (have q1 : OnlyRd M M126 := (OnlyRd.ln ho121).tr (OnlyRd.up e126 (Or.inl rfl))
               have r8 : M126 8 = upd (M 8) 3 0 := by rw [e126, va_up_self, ho121 8 (by omega)]
               rw [show ps_close p = _ from ps_cl_R (b := ps_b p) (pt := ps_p p) (k := ps_k p) (f := ps_f p) (l := ps_l p) b100 b108]
               refine ⟨rfl, ⟨by rw [r8, pk_un (by decide)]; exact hR.1, by rw [r8, pk_us]; rfl, fun z => absurd rfl z, fun z => absurd rfl z, hL121.keep (fun i h1 h2 => by rw [e126, va_up_ne _ _ (by omega)])⟩, q1, rfl⟩)
            | (rw [show ps_close p = p from ps_cl_N (b := ps_b p) (pt := ps_p p) (k := ps_k p) (f := ps_f p) (l := ps_l p) (by omega) (by omega) (by omega)]
               exact ⟨rfl, hR, OnlyRd.rf, rfl⟩)
        · replace b100 : ps_p p = 82 := (nI_eq (b := 82) (by omega) (by decide)).mp b100
          refine ro_aload_n dX3_closePartIfWhole_103 rfl rfl ?_
          refine gf_X3_figuresRead  in_X3_closePartIfWhole_X3 lk_X3_closePartIfWhole_44 dX3_closePartIfWhole_104 ?_
          rw [hR.2.2.1 hp]
          refine ro_iconst (v := 1) dX3_closePartIfWhole_107 (by decide) ?_
          refine ro_icmp_ne 129 dX3_closePartIfWhole_108 (by decide) (fun b108 => ?_) (fun b108 => ?_)
          · replace b108 : ¬ ps_k p = 1 := fun z => b108 (by rw [z]; rfl)
            refine ro_vret rfl dX3_closePartIfWhole_129 ?_
            first
              | (have q1 : OnlyRd M M38 := (OnlyRd.ln ho33).tr (OnlyRd.up e38 (Or.inl rfl))
                 have r8 : M38 8 = upd (M 8) 3 0 := by rw [e38, va_up_self, ho33 8 (by omega)]
                 rw [show ps_close p = _ from ps_cl_H (b := ps_b p) (pt := ps_p p) (k := ps_k p) (f := ps_f p) (l := ps_l p) b6 b14]
                 refine ⟨rfl, ⟨by rw [r8, pk_un (by decide)]; exact hR.1, by rw [r8, pk_us]; rfl, fun z => absurd rfl z, fun z => absurd rfl z, hL33.keep (fun i h1 h2 => by rw [e38, va_up_ne _ _ (by omega)])⟩, q1, rfl⟩)
              | (have q1 : OnlyRd M M88 := (OnlyRd.ln ho83).tr (OnlyRd.up e88 (Or.inl rfl))
                 have r8 : M88 8 = upd (M 8) 3 0 := by rw [e88, va_up_self, ho83 8 (by omega)]
                 rw [show ps_close p = _ from ps_cl_S (b := ps_b p) (pt := ps_p p) (k := ps_k p) (f := ps_f p) (l := ps_l p) b50 b58]
                 refine ⟨rfl, ⟨by rw [r8, pk_un (by decide)]; exact hR.1, by rw [r8, pk_us]; rfl, fun z => absurd rfl z, fun z => absurd rfl z, hL83.keep (fun i h1 h2 => by rw [e88, va_up_ne _ _ (by omega)])⟩, q1, rfl⟩)
              | (have q1 : OnlyRd M M126 := (OnlyRd.ln ho121).tr (OnlyRd.up e126 (Or.inl rfl))
                 have r8 : M126 8 = upd (M 8) 3 0 := by rw [e126, va_up_self, ho121 8 (by omega)]
                 rw [show ps_close p = _ from ps_cl_R (b := ps_b p) (pt := ps_p p) (k := ps_k p) (f := ps_f p) (l := ps_l p) b100 b108]
                 refine ⟨rfl, ⟨by rw [r8, pk_un (by decide)]; exact hR.1, by rw [r8, pk_us]; rfl, fun z => absurd rfl z, fun z => absurd rfl z, hL121.keep (fun i h1 h2 => by rw [e126, va_up_ne _ _ (by omega)])⟩, q1, rfl⟩)
              | (rw [show ps_close p = p from ps_cl_N (b := ps_b p) (pt := ps_p p) (k := ps_k p) (f := ps_f p) (l := ps_l p) (by omega) (by omega) (by omega)]
                 exact ⟨rfl, hR, OnlyRd.rf, rfl⟩)
          · replace b108 : ps_k p = 1 := (nI_eq (b := 1) (by omega) (by decide)).mp b108
            refine ro_aload_n dX3_closePartIfWhole_111 rfl rfl ?_
            refine gf_X3_draft  in_X3_closePartIfWhole_X3 lk_X3_closePartIfWhole_12 dX3_closePartIfWhole_112 ?_
            refine ro_aload_n dX3_closePartIfWhole_115 rfl rfl ?_
            refine gf_X3_figures  in_X3_closePartIfWhole_X3 lk_X3_closePartIfWhole_18 dX3_closePartIfWhole_116 ?_
            refine ro_iconst (v := 0) dX3_closePartIfWhole_119 (by decide) ?_
            refine ro_ai ar_9 (k := 0) rfl (by omega) dX3_closePartIfWhole_120 ?_
            rw [hR.2.2.2.1 hp 0 (by omega)]
            refine ro_callV1Q ok_X2_addRain (ct_addRain hR.2.2.2.2 (hN b100 b108)) (ce_X2 ln_23) rfl rfl gX3_closePartIfWhole_X2_addRain (Nat.le_of_ble_eq_true rfl) (Nat.le_of_ble_eq_true rfl) dX3_closePartIfWhole_121 (fun v121 M121 L121 q121 => ?_)
            obtain ⟨rfl, hL121, ho121, rfl⟩ := q121
            refine ro_aload_n dX3_closePartIfWhole_124 rfl rfl ?_
            refine ro_iconst (v := 0) dX3_closePartIfWhole_125 (by decide) ?_
            refine pf_X3_part  in_X3_closePartIfWhole_X3 lk_X3_closePartIfWhole_29  dX3_closePartIfWhole_126 (fun M126 e126 => ?_)
            refine ro_vret rfl dX3_closePartIfWhole_129 ?_
            first
              | (have q1 : OnlyRd M M38 := (OnlyRd.ln ho33).tr (OnlyRd.up e38 (Or.inl rfl))
                 have r8 : M38 8 = upd (M 8) 3 0 := by rw [e38, va_up_self, ho33 8 (by omega)]
                 rw [show ps_close p = _ from ps_cl_H (b := ps_b p) (pt := ps_p p) (k := ps_k p) (f := ps_f p) (l := ps_l p) b6 b14]
                 refine ⟨rfl, ⟨by rw [r8, pk_un (by decide)]; exact hR.1, by rw [r8, pk_us]; rfl, fun z => absurd rfl z, fun z => absurd rfl z, hL33.keep (fun i h1 h2 => by rw [e38, va_up_ne _ _ (by omega)])⟩, q1, rfl⟩)
              | (have q1 : OnlyRd M M88 := (OnlyRd.ln ho83).tr (OnlyRd.up e88 (Or.inl rfl))
                 have r8 : M88 8 = upd (M 8) 3 0 := by rw [e88, va_up_self, ho83 8 (by omega)]
                 rw [show ps_close p = _ from ps_cl_S (b := ps_b p) (pt := ps_p p) (k := ps_k p) (f := ps_f p) (l := ps_l p) b50 b58]
                 refine ⟨rfl, ⟨by rw [r8, pk_un (by decide)]; exact hR.1, by rw [r8, pk_us]; rfl, fun z => absurd rfl z, fun z => absurd rfl z, hL83.keep (fun i h1 h2 => by rw [e88, va_up_ne _ _ (by omega)])⟩, q1, rfl⟩)
              | (have q1 : OnlyRd M M126 := (OnlyRd.ln ho121).tr (OnlyRd.up e126 (Or.inl rfl))
                 have r8 : M126 8 = upd (M 8) 3 0 := by rw [e126, va_up_self, ho121 8 (by omega)]
                 rw [show ps_close p = _ from ps_cl_R (b := ps_b p) (pt := ps_p p) (k := ps_k p) (f := ps_f p) (l := ps_l p) b100 b108]
                 refine ⟨rfl, ⟨by rw [r8, pk_un (by decide)]; exact hR.1, by rw [r8, pk_us]; rfl, fun z => absurd rfl z, fun z => absurd rfl z, hL121.keep (fun i h1 h2 => by rw [e126, va_up_ne _ _ (by omega)])⟩, q1, rfl⟩)
              | (rw [show ps_close p = p from ps_cl_N (b := ps_b p) (pt := ps_p p) (k := ps_k p) (f := ps_f p) (l := ps_l p) (by omega) (by omega) (by omega)]
                 exact ⟨rfl, hR, OnlyRd.rf, rfl⟩)
      · replace b58 : ps_k p = 3 := (nI_eq (b := 3) (by omega) (by decide)).mp b58
        refine ro_aload_n dX3_closePartIfWhole_61 rfl rfl ?_
        refine gf_X3_draft  in_X3_closePartIfWhole_X3 lk_X3_closePartIfWhole_12 dX3_closePartIfWhole_62 ?_
        refine ro_aload_n dX3_closePartIfWhole_65 rfl rfl ?_
        refine gf_X3_figures  in_X3_closePartIfWhole_X3 lk_X3_closePartIfWhole_18 dX3_closePartIfWhole_66 ?_
        refine ro_iconst (v := 0) dX3_closePartIfWhole_69 (by decide) ?_
        refine ro_ai ar_9 (k := 0) rfl (by omega) dX3_closePartIfWhole_70 ?_
        rw [hR.2.2.2.1 hp 0 (by omega)]
        refine ro_aload_n dX3_closePartIfWhole_71 rfl rfl ?_
        refine gf_X3_figures  in_X3_closePartIfWhole_X3 lk_X3_closePartIfWhole_18 dX3_closePartIfWhole_72 ?_
        refine ro_iconst (v := 1) dX3_closePartIfWhole_75 (by decide) ?_
        refine ro_ai ar_9 (k := 1) rfl (by omega) dX3_closePartIfWhole_76 ?_
        rw [hR.2.2.2.1 hp 1 (by omega)]
        refine ro_aload_n dX3_closePartIfWhole_77 rfl rfl ?_
        refine gf_X3_figures  in_X3_closePartIfWhole_X3 lk_X3_closePartIfWhole_18 dX3_closePartIfWhole_78 ?_
        refine ro_iconst (v := 2) dX3_closePartIfWhole_81 (by decide) ?_
        refine ro_ai ar_9 (k := 2) rfl (by omega) dX3_closePartIfWhole_82 ?_
        rw [hR.2.2.2.1 hp 2 (by omega)]
        refine ro_callV3Q ok_X2_addSaying (ct_addSaying hR.2.2.2.2 (hS b50 b58)) (ce_X2 ln_23) rfl rfl gX3_closePartIfWhole_X2_addSaying (Nat.le_of_ble_eq_true rfl) (Nat.le_of_ble_eq_true rfl) dX3_closePartIfWhole_83 (fun v83 M83 L83 q83 => ?_)
        obtain ⟨rfl, hL83, ho83, rfl⟩ := q83
        refine ro_aload_n dX3_closePartIfWhole_86 rfl rfl ?_
        refine ro_iconst (v := 0) dX3_closePartIfWhole_87 (by decide) ?_
        refine pf_X3_part  in_X3_closePartIfWhole_X3 lk_X3_closePartIfWhole_29  dX3_closePartIfWhole_88 (fun M88 e88 => ?_)
        refine ro_goto 129 dX3_closePartIfWhole_91 (by decide) ?_
        refine ro_vret rfl dX3_closePartIfWhole_129 ?_
        first
          | (have q1 : OnlyRd M M38 := (OnlyRd.ln ho33).tr (OnlyRd.up e38 (Or.inl rfl))
             have r8 : M38 8 = upd (M 8) 3 0 := by rw [e38, va_up_self, ho33 8 (by omega)]
             rw [show ps_close p = _ from ps_cl_H (b := ps_b p) (pt := ps_p p) (k := ps_k p) (f := ps_f p) (l := ps_l p) b6 b14]
             refine ⟨rfl, ⟨by rw [r8, pk_un (by decide)]; exact hR.1, by rw [r8, pk_us]; rfl, fun z => absurd rfl z, fun z => absurd rfl z, hL33.keep (fun i h1 h2 => by rw [e38, va_up_ne _ _ (by omega)])⟩, q1, rfl⟩)
          | (have q1 : OnlyRd M M88 := (OnlyRd.ln ho83).tr (OnlyRd.up e88 (Or.inl rfl))
             have r8 : M88 8 = upd (M 8) 3 0 := by rw [e88, va_up_self, ho83 8 (by omega)]
             rw [show ps_close p = _ from ps_cl_S (b := ps_b p) (pt := ps_p p) (k := ps_k p) (f := ps_f p) (l := ps_l p) b50 b58]
             refine ⟨rfl, ⟨by rw [r8, pk_un (by decide)]; exact hR.1, by rw [r8, pk_us]; rfl, fun z => absurd rfl z, fun z => absurd rfl z, hL83.keep (fun i h1 h2 => by rw [e88, va_up_ne _ _ (by omega)])⟩, q1, rfl⟩)
          | (have q1 : OnlyRd M M126 := (OnlyRd.ln ho121).tr (OnlyRd.up e126 (Or.inl rfl))
             have r8 : M126 8 = upd (M 8) 3 0 := by rw [e126, va_up_self, ho121 8 (by omega)]
             rw [show ps_close p = _ from ps_cl_R (b := ps_b p) (pt := ps_p p) (k := ps_k p) (f := ps_f p) (l := ps_l p) b100 b108]
             refine ⟨rfl, ⟨by rw [r8, pk_un (by decide)]; exact hR.1, by rw [r8, pk_us]; rfl, fun z => absurd rfl z, fun z => absurd rfl z, hL121.keep (fun i h1 h2 => by rw [e126, va_up_ne _ _ (by omega)])⟩, q1, rfl⟩)
          | (rw [show ps_close p = p from ps_cl_N (b := ps_b p) (pt := ps_p p) (k := ps_k p) (f := ps_f p) (l := ps_l p) (by omega) (by omega) (by omega)]
             exact ⟨rfl, hR, OnlyRd.rf, rfl⟩)
  · replace b6 : ps_p p = 72 := (nI_eq (b := 72) (by omega) (by decide)).mp b6
    refine ro_aload_n dX3_closePartIfWhole_9 rfl rfl ?_
    refine gf_X3_figuresRead  in_X3_closePartIfWhole_X3 lk_X3_closePartIfWhole_44 dX3_closePartIfWhole_10 ?_
    rw [hR.2.2.1 hp]
    refine ro_iconst (v := 2) dX3_closePartIfWhole_13 (by decide) ?_
    refine ro_icmp_ne 44 dX3_closePartIfWhole_14 (by decide) (fun b14 => ?_) (fun b14 => ?_)
    · replace b14 : ¬ ps_k p = 2 := fun z => b14 (by rw [z]; rfl)
      refine ro_aload_n dX3_closePartIfWhole_44 rfl rfl ?_
      refine gf_X3_part  in_X3_closePartIfWhole_X3 lk_X3_closePartIfWhole_29 dX3_closePartIfWhole_45 ?_
      rw [hR.2.1]
      refine ro_bipush (v := 83) dX3_closePartIfWhole_48 (by decide) ?_
      refine ro_icmp_ne 94 dX3_closePartIfWhole_50 (by decide) (fun b50 => ?_) (fun b50 => ?_)
      · replace b50 : ¬ ps_p p = 83 := fun z => b50 (by rw [z]; rfl)
        refine ro_aload_n dX3_closePartIfWhole_94 rfl rfl ?_
        refine gf_X3_part  in_X3_closePartIfWhole_X3 lk_X3_closePartIfWhole_29 dX3_closePartIfWhole_95 ?_
        rw [hR.2.1]
        refine ro_bipush (v := 82) dX3_closePartIfWhole_98 (by decide) ?_
        refine ro_icmp_ne 129 dX3_closePartIfWhole_100 (by decide) (fun b100 => ?_) (fun b100 => ?_)
        · replace b100 : ¬ ps_p p = 82 := fun z => b100 (by rw [z]; rfl)
          refine ro_vret rfl dX3_closePartIfWhole_129 ?_
          first
            | (have q1 : OnlyRd M M38 := (OnlyRd.ln ho33).tr (OnlyRd.up e38 (Or.inl rfl))
               have r8 : M38 8 = upd (M 8) 3 0 := by rw [e38, va_up_self, ho33 8 (by omega)]
               rw [show ps_close p = _ from ps_cl_H (b := ps_b p) (pt := ps_p p) (k := ps_k p) (f := ps_f p) (l := ps_l p) b6 b14]
               refine ⟨rfl, ⟨by rw [r8, pk_un (by decide)]; exact hR.1, by rw [r8, pk_us]; rfl, fun z => absurd rfl z, fun z => absurd rfl z, hL33.keep (fun i h1 h2 => by rw [e38, va_up_ne _ _ (by omega)])⟩, q1, rfl⟩)
            | (have q1 : OnlyRd M M88 := (OnlyRd.ln ho83).tr (OnlyRd.up e88 (Or.inl rfl))
               have r8 : M88 8 = upd (M 8) 3 0 := by rw [e88, va_up_self, ho83 8 (by omega)]
               rw [show ps_close p = _ from ps_cl_S (b := ps_b p) (pt := ps_p p) (k := ps_k p) (f := ps_f p) (l := ps_l p) b50 b58]
               refine ⟨rfl, ⟨by rw [r8, pk_un (by decide)]; exact hR.1, by rw [r8, pk_us]; rfl, fun z => absurd rfl z, fun z => absurd rfl z, hL83.keep (fun i h1 h2 => by rw [e88, va_up_ne _ _ (by omega)])⟩, q1, rfl⟩)
            | (have q1 : OnlyRd M M126 := (OnlyRd.ln ho121).tr (OnlyRd.up e126 (Or.inl rfl))
               have r8 : M126 8 = upd (M 8) 3 0 := by rw [e126, va_up_self, ho121 8 (by omega)]
               rw [show ps_close p = _ from ps_cl_R (b := ps_b p) (pt := ps_p p) (k := ps_k p) (f := ps_f p) (l := ps_l p) b100 b108]
               refine ⟨rfl, ⟨by rw [r8, pk_un (by decide)]; exact hR.1, by rw [r8, pk_us]; rfl, fun z => absurd rfl z, fun z => absurd rfl z, hL121.keep (fun i h1 h2 => by rw [e126, va_up_ne _ _ (by omega)])⟩, q1, rfl⟩)
            | (rw [show ps_close p = p from ps_cl_N (b := ps_b p) (pt := ps_p p) (k := ps_k p) (f := ps_f p) (l := ps_l p) (by omega) (by omega) (by omega)]
               exact ⟨rfl, hR, OnlyRd.rf, rfl⟩)
        · replace b100 : ps_p p = 82 := (nI_eq (b := 82) (by omega) (by decide)).mp b100
          refine ro_aload_n dX3_closePartIfWhole_103 rfl rfl ?_
          refine gf_X3_figuresRead  in_X3_closePartIfWhole_X3 lk_X3_closePartIfWhole_44 dX3_closePartIfWhole_104 ?_
          rw [hR.2.2.1 hp]
          refine ro_iconst (v := 1) dX3_closePartIfWhole_107 (by decide) ?_
          refine ro_icmp_ne 129 dX3_closePartIfWhole_108 (by decide) (fun b108 => ?_) (fun b108 => ?_)
          · replace b108 : ¬ ps_k p = 1 := fun z => b108 (by rw [z]; rfl)
            refine ro_vret rfl dX3_closePartIfWhole_129 ?_
            first
              | (have q1 : OnlyRd M M38 := (OnlyRd.ln ho33).tr (OnlyRd.up e38 (Or.inl rfl))
                 have r8 : M38 8 = upd (M 8) 3 0 := by rw [e38, va_up_self, ho33 8 (by omega)]
                 rw [show ps_close p = _ from ps_cl_H (b := ps_b p) (pt := ps_p p) (k := ps_k p) (f := ps_f p) (l := ps_l p) b6 b14]
                 refine ⟨rfl, ⟨by rw [r8, pk_un (by decide)]; exact hR.1, by rw [r8, pk_us]; rfl, fun z => absurd rfl z, fun z => absurd rfl z, hL33.keep (fun i h1 h2 => by rw [e38, va_up_ne _ _ (by omega)])⟩, q1, rfl⟩)
              | (have q1 : OnlyRd M M88 := (OnlyRd.ln ho83).tr (OnlyRd.up e88 (Or.inl rfl))
                 have r8 : M88 8 = upd (M 8) 3 0 := by rw [e88, va_up_self, ho83 8 (by omega)]
                 rw [show ps_close p = _ from ps_cl_S (b := ps_b p) (pt := ps_p p) (k := ps_k p) (f := ps_f p) (l := ps_l p) b50 b58]
                 refine ⟨rfl, ⟨by rw [r8, pk_un (by decide)]; exact hR.1, by rw [r8, pk_us]; rfl, fun z => absurd rfl z, fun z => absurd rfl z, hL83.keep (fun i h1 h2 => by rw [e88, va_up_ne _ _ (by omega)])⟩, q1, rfl⟩)
              | (have q1 : OnlyRd M M126 := (OnlyRd.ln ho121).tr (OnlyRd.up e126 (Or.inl rfl))
                 have r8 : M126 8 = upd (M 8) 3 0 := by rw [e126, va_up_self, ho121 8 (by omega)]
                 rw [show ps_close p = _ from ps_cl_R (b := ps_b p) (pt := ps_p p) (k := ps_k p) (f := ps_f p) (l := ps_l p) b100 b108]
                 refine ⟨rfl, ⟨by rw [r8, pk_un (by decide)]; exact hR.1, by rw [r8, pk_us]; rfl, fun z => absurd rfl z, fun z => absurd rfl z, hL121.keep (fun i h1 h2 => by rw [e126, va_up_ne _ _ (by omega)])⟩, q1, rfl⟩)
              | (rw [show ps_close p = p from ps_cl_N (b := ps_b p) (pt := ps_p p) (k := ps_k p) (f := ps_f p) (l := ps_l p) (by omega) (by omega) (by omega)]
                 exact ⟨rfl, hR, OnlyRd.rf, rfl⟩)
          · replace b108 : ps_k p = 1 := (nI_eq (b := 1) (by omega) (by decide)).mp b108
            refine ro_aload_n dX3_closePartIfWhole_111 rfl rfl ?_
            refine gf_X3_draft  in_X3_closePartIfWhole_X3 lk_X3_closePartIfWhole_12 dX3_closePartIfWhole_112 ?_
            refine ro_aload_n dX3_closePartIfWhole_115 rfl rfl ?_
            refine gf_X3_figures  in_X3_closePartIfWhole_X3 lk_X3_closePartIfWhole_18 dX3_closePartIfWhole_116 ?_
            refine ro_iconst (v := 0) dX3_closePartIfWhole_119 (by decide) ?_
            refine ro_ai ar_9 (k := 0) rfl (by omega) dX3_closePartIfWhole_120 ?_
            rw [hR.2.2.2.1 hp 0 (by omega)]
            refine ro_callV1Q ok_X2_addRain (ct_addRain hR.2.2.2.2 (hN b100 b108)) (ce_X2 ln_23) rfl rfl gX3_closePartIfWhole_X2_addRain (Nat.le_of_ble_eq_true rfl) (Nat.le_of_ble_eq_true rfl) dX3_closePartIfWhole_121 (fun v121 M121 L121 q121 => ?_)
            obtain ⟨rfl, hL121, ho121, rfl⟩ := q121
            refine ro_aload_n dX3_closePartIfWhole_124 rfl rfl ?_
            refine ro_iconst (v := 0) dX3_closePartIfWhole_125 (by decide) ?_
            refine pf_X3_part  in_X3_closePartIfWhole_X3 lk_X3_closePartIfWhole_29  dX3_closePartIfWhole_126 (fun M126 e126 => ?_)
            refine ro_vret rfl dX3_closePartIfWhole_129 ?_
            first
              | (have q1 : OnlyRd M M38 := (OnlyRd.ln ho33).tr (OnlyRd.up e38 (Or.inl rfl))
                 have r8 : M38 8 = upd (M 8) 3 0 := by rw [e38, va_up_self, ho33 8 (by omega)]
                 rw [show ps_close p = _ from ps_cl_H (b := ps_b p) (pt := ps_p p) (k := ps_k p) (f := ps_f p) (l := ps_l p) b6 b14]
                 refine ⟨rfl, ⟨by rw [r8, pk_un (by decide)]; exact hR.1, by rw [r8, pk_us]; rfl, fun z => absurd rfl z, fun z => absurd rfl z, hL33.keep (fun i h1 h2 => by rw [e38, va_up_ne _ _ (by omega)])⟩, q1, rfl⟩)
              | (have q1 : OnlyRd M M88 := (OnlyRd.ln ho83).tr (OnlyRd.up e88 (Or.inl rfl))
                 have r8 : M88 8 = upd (M 8) 3 0 := by rw [e88, va_up_self, ho83 8 (by omega)]
                 rw [show ps_close p = _ from ps_cl_S (b := ps_b p) (pt := ps_p p) (k := ps_k p) (f := ps_f p) (l := ps_l p) b50 b58]
                 refine ⟨rfl, ⟨by rw [r8, pk_un (by decide)]; exact hR.1, by rw [r8, pk_us]; rfl, fun z => absurd rfl z, fun z => absurd rfl z, hL83.keep (fun i h1 h2 => by rw [e88, va_up_ne _ _ (by omega)])⟩, q1, rfl⟩)
              | (have q1 : OnlyRd M M126 := (OnlyRd.ln ho121).tr (OnlyRd.up e126 (Or.inl rfl))
                 have r8 : M126 8 = upd (M 8) 3 0 := by rw [e126, va_up_self, ho121 8 (by omega)]
                 rw [show ps_close p = _ from ps_cl_R (b := ps_b p) (pt := ps_p p) (k := ps_k p) (f := ps_f p) (l := ps_l p) b100 b108]
                 refine ⟨rfl, ⟨by rw [r8, pk_un (by decide)]; exact hR.1, by rw [r8, pk_us]; rfl, fun z => absurd rfl z, fun z => absurd rfl z, hL121.keep (fun i h1 h2 => by rw [e126, va_up_ne _ _ (by omega)])⟩, q1, rfl⟩)
              | (rw [show ps_close p = p from ps_cl_N (b := ps_b p) (pt := ps_p p) (k := ps_k p) (f := ps_f p) (l := ps_l p) (by omega) (by omega) (by omega)]
                 exact ⟨rfl, hR, OnlyRd.rf, rfl⟩)
      · replace b50 : ps_p p = 83 := (nI_eq (b := 83) (by omega) (by decide)).mp b50
        refine ro_aload_n dX3_closePartIfWhole_53 rfl rfl ?_
        refine gf_X3_figuresRead  in_X3_closePartIfWhole_X3 lk_X3_closePartIfWhole_44 dX3_closePartIfWhole_54 ?_
        rw [hR.2.2.1 hp]
        refine ro_iconst (v := 3) dX3_closePartIfWhole_57 (by decide) ?_
        refine ro_icmp_ne 94 dX3_closePartIfWhole_58 (by decide) (fun b58 => ?_) (fun b58 => ?_)
        · replace b58 : ¬ ps_k p = 3 := fun z => b58 (by rw [z]; rfl)
          refine ro_aload_n dX3_closePartIfWhole_94 rfl rfl ?_
          refine gf_X3_part  in_X3_closePartIfWhole_X3 lk_X3_closePartIfWhole_29 dX3_closePartIfWhole_95 ?_
          rw [hR.2.1]
          refine ro_bipush (v := 82) dX3_closePartIfWhole_98 (by decide) ?_
          refine ro_icmp_ne 129 dX3_closePartIfWhole_100 (by decide) (fun b100 => ?_) (fun b100 => ?_)
          · replace b100 : ¬ ps_p p = 82 := fun z => b100 (by rw [z]; rfl)
            refine ro_vret rfl dX3_closePartIfWhole_129 ?_
            first
              | (have q1 : OnlyRd M M38 := (OnlyRd.ln ho33).tr (OnlyRd.up e38 (Or.inl rfl))
                 have r8 : M38 8 = upd (M 8) 3 0 := by rw [e38, va_up_self, ho33 8 (by omega)]
                 rw [show ps_close p = _ from ps_cl_H (b := ps_b p) (pt := ps_p p) (k := ps_k p) (f := ps_f p) (l := ps_l p) b6 b14]
                 refine ⟨rfl, ⟨by rw [r8, pk_un (by decide)]; exact hR.1, by rw [r8, pk_us]; rfl, fun z => absurd rfl z, fun z => absurd rfl z, hL33.keep (fun i h1 h2 => by rw [e38, va_up_ne _ _ (by omega)])⟩, q1, rfl⟩)
              | (have q1 : OnlyRd M M88 := (OnlyRd.ln ho83).tr (OnlyRd.up e88 (Or.inl rfl))
                 have r8 : M88 8 = upd (M 8) 3 0 := by rw [e88, va_up_self, ho83 8 (by omega)]
                 rw [show ps_close p = _ from ps_cl_S (b := ps_b p) (pt := ps_p p) (k := ps_k p) (f := ps_f p) (l := ps_l p) b50 b58]
                 refine ⟨rfl, ⟨by rw [r8, pk_un (by decide)]; exact hR.1, by rw [r8, pk_us]; rfl, fun z => absurd rfl z, fun z => absurd rfl z, hL83.keep (fun i h1 h2 => by rw [e88, va_up_ne _ _ (by omega)])⟩, q1, rfl⟩)
              | (have q1 : OnlyRd M M126 := (OnlyRd.ln ho121).tr (OnlyRd.up e126 (Or.inl rfl))
                 have r8 : M126 8 = upd (M 8) 3 0 := by rw [e126, va_up_self, ho121 8 (by omega)]
                 rw [show ps_close p = _ from ps_cl_R (b := ps_b p) (pt := ps_p p) (k := ps_k p) (f := ps_f p) (l := ps_l p) b100 b108]
                 refine ⟨rfl, ⟨by rw [r8, pk_un (by decide)]; exact hR.1, by rw [r8, pk_us]; rfl, fun z => absurd rfl z, fun z => absurd rfl z, hL121.keep (fun i h1 h2 => by rw [e126, va_up_ne _ _ (by omega)])⟩, q1, rfl⟩)
              | (rw [show ps_close p = p from ps_cl_N (b := ps_b p) (pt := ps_p p) (k := ps_k p) (f := ps_f p) (l := ps_l p) (by omega) (by omega) (by omega)]
                 exact ⟨rfl, hR, OnlyRd.rf, rfl⟩)
          · replace b100 : ps_p p = 82 := (nI_eq (b := 82) (by omega) (by decide)).mp b100
            refine ro_aload_n dX3_closePartIfWhole_103 rfl rfl ?_
            refine gf_X3_figuresRead  in_X3_closePartIfWhole_X3 lk_X3_closePartIfWhole_44 dX3_closePartIfWhole_104 ?_
            rw [hR.2.2.1 hp]
            refine ro_iconst (v := 1) dX3_closePartIfWhole_107 (by decide) ?_
            refine ro_icmp_ne 129 dX3_closePartIfWhole_108 (by decide) (fun b108 => ?_) (fun b108 => ?_)
            · replace b108 : ¬ ps_k p = 1 := fun z => b108 (by rw [z]; rfl)
              refine ro_vret rfl dX3_closePartIfWhole_129 ?_
              first
                | (have q1 : OnlyRd M M38 := (OnlyRd.ln ho33).tr (OnlyRd.up e38 (Or.inl rfl))
                   have r8 : M38 8 = upd (M 8) 3 0 := by rw [e38, va_up_self, ho33 8 (by omega)]
                   rw [show ps_close p = _ from ps_cl_H (b := ps_b p) (pt := ps_p p) (k := ps_k p) (f := ps_f p) (l := ps_l p) b6 b14]
                   refine ⟨rfl, ⟨by rw [r8, pk_un (by decide)]; exact hR.1, by rw [r8, pk_us]; rfl, fun z => absurd rfl z, fun z => absurd rfl z, hL33.keep (fun i h1 h2 => by rw [e38, va_up_ne _ _ (by omega)])⟩, q1, rfl⟩)
                | (have q1 : OnlyRd M M88 := (OnlyRd.ln ho83).tr (OnlyRd.up e88 (Or.inl rfl))
                   have r8 : M88 8 = upd (M 8) 3 0 := by rw [e88, va_up_self, ho83 8 (by omega)]
                   rw [show ps_close p = _ from ps_cl_S (b := ps_b p) (pt := ps_p p) (k := ps_k p) (f := ps_f p) (l := ps_l p) b50 b58]
                   refine ⟨rfl, ⟨by rw [r8, pk_un (by decide)]; exact hR.1, by rw [r8, pk_us]; rfl, fun z => absurd rfl z, fun z => absurd rfl z, hL83.keep (fun i h1 h2 => by rw [e88, va_up_ne _ _ (by omega)])⟩, q1, rfl⟩)
                | (have q1 : OnlyRd M M126 := (OnlyRd.ln ho121).tr (OnlyRd.up e126 (Or.inl rfl))
                   have r8 : M126 8 = upd (M 8) 3 0 := by rw [e126, va_up_self, ho121 8 (by omega)]
                   rw [show ps_close p = _ from ps_cl_R (b := ps_b p) (pt := ps_p p) (k := ps_k p) (f := ps_f p) (l := ps_l p) b100 b108]
                   refine ⟨rfl, ⟨by rw [r8, pk_un (by decide)]; exact hR.1, by rw [r8, pk_us]; rfl, fun z => absurd rfl z, fun z => absurd rfl z, hL121.keep (fun i h1 h2 => by rw [e126, va_up_ne _ _ (by omega)])⟩, q1, rfl⟩)
                | (rw [show ps_close p = p from ps_cl_N (b := ps_b p) (pt := ps_p p) (k := ps_k p) (f := ps_f p) (l := ps_l p) (by omega) (by omega) (by omega)]
                   exact ⟨rfl, hR, OnlyRd.rf, rfl⟩)
            · replace b108 : ps_k p = 1 := (nI_eq (b := 1) (by omega) (by decide)).mp b108
              refine ro_aload_n dX3_closePartIfWhole_111 rfl rfl ?_
              refine gf_X3_draft  in_X3_closePartIfWhole_X3 lk_X3_closePartIfWhole_12 dX3_closePartIfWhole_112 ?_
              refine ro_aload_n dX3_closePartIfWhole_115 rfl rfl ?_
              refine gf_X3_figures  in_X3_closePartIfWhole_X3 lk_X3_closePartIfWhole_18 dX3_closePartIfWhole_116 ?_
              refine ro_iconst (v := 0) dX3_closePartIfWhole_119 (by decide) ?_
              refine ro_ai ar_9 (k := 0) rfl (by omega) dX3_closePartIfWhole_120 ?_
              rw [hR.2.2.2.1 hp 0 (by omega)]
              refine ro_callV1Q ok_X2_addRain (ct_addRain hR.2.2.2.2 (hN b100 b108)) (ce_X2 ln_23) rfl rfl gX3_closePartIfWhole_X2_addRain (Nat.le_of_ble_eq_true rfl) (Nat.le_of_ble_eq_true rfl) dX3_closePartIfWhole_121 (fun v121 M121 L121 q121 => ?_)
              obtain ⟨rfl, hL121, ho121, rfl⟩ := q121
              refine ro_aload_n dX3_closePartIfWhole_124 rfl rfl ?_
              refine ro_iconst (v := 0) dX3_closePartIfWhole_125 (by decide) ?_
              refine pf_X3_part  in_X3_closePartIfWhole_X3 lk_X3_closePartIfWhole_29  dX3_closePartIfWhole_126 (fun M126 e126 => ?_)
              refine ro_vret rfl dX3_closePartIfWhole_129 ?_
              first
                | (have q1 : OnlyRd M M38 := (OnlyRd.ln ho33).tr (OnlyRd.up e38 (Or.inl rfl))
                   have r8 : M38 8 = upd (M 8) 3 0 := by rw [e38, va_up_self, ho33 8 (by omega)]
                   rw [show ps_close p = _ from ps_cl_H (b := ps_b p) (pt := ps_p p) (k := ps_k p) (f := ps_f p) (l := ps_l p) b6 b14]
                   refine ⟨rfl, ⟨by rw [r8, pk_un (by decide)]; exact hR.1, by rw [r8, pk_us]; rfl, fun z => absurd rfl z, fun z => absurd rfl z, hL33.keep (fun i h1 h2 => by rw [e38, va_up_ne _ _ (by omega)])⟩, q1, rfl⟩)
                | (have q1 : OnlyRd M M88 := (OnlyRd.ln ho83).tr (OnlyRd.up e88 (Or.inl rfl))
                   have r8 : M88 8 = upd (M 8) 3 0 := by rw [e88, va_up_self, ho83 8 (by omega)]
                   rw [show ps_close p = _ from ps_cl_S (b := ps_b p) (pt := ps_p p) (k := ps_k p) (f := ps_f p) (l := ps_l p) b50 b58]
                   refine ⟨rfl, ⟨by rw [r8, pk_un (by decide)]; exact hR.1, by rw [r8, pk_us]; rfl, fun z => absurd rfl z, fun z => absurd rfl z, hL83.keep (fun i h1 h2 => by rw [e88, va_up_ne _ _ (by omega)])⟩, q1, rfl⟩)
                | (have q1 : OnlyRd M M126 := (OnlyRd.ln ho121).tr (OnlyRd.up e126 (Or.inl rfl))
                   have r8 : M126 8 = upd (M 8) 3 0 := by rw [e126, va_up_self, ho121 8 (by omega)]
                   rw [show ps_close p = _ from ps_cl_R (b := ps_b p) (pt := ps_p p) (k := ps_k p) (f := ps_f p) (l := ps_l p) b100 b108]
                   refine ⟨rfl, ⟨by rw [r8, pk_un (by decide)]; exact hR.1, by rw [r8, pk_us]; rfl, fun z => absurd rfl z, fun z => absurd rfl z, hL121.keep (fun i h1 h2 => by rw [e126, va_up_ne _ _ (by omega)])⟩, q1, rfl⟩)
                | (rw [show ps_close p = p from ps_cl_N (b := ps_b p) (pt := ps_p p) (k := ps_k p) (f := ps_f p) (l := ps_l p) (by omega) (by omega) (by omega)]
                   exact ⟨rfl, hR, OnlyRd.rf, rfl⟩)
        · replace b58 : ps_k p = 3 := (nI_eq (b := 3) (by omega) (by decide)).mp b58
          refine ro_aload_n dX3_closePartIfWhole_61 rfl rfl ?_
          refine gf_X3_draft  in_X3_closePartIfWhole_X3 lk_X3_closePartIfWhole_12 dX3_closePartIfWhole_62 ?_
          refine ro_aload_n dX3_closePartIfWhole_65 rfl rfl ?_
          refine gf_X3_figures  in_X3_closePartIfWhole_X3 lk_X3_closePartIfWhole_18 dX3_closePartIfWhole_66 ?_
          refine ro_iconst (v := 0) dX3_closePartIfWhole_69 (by decide) ?_
          refine ro_ai ar_9 (k := 0) rfl (by omega) dX3_closePartIfWhole_70 ?_
          rw [hR.2.2.2.1 hp 0 (by omega)]
          refine ro_aload_n dX3_closePartIfWhole_71 rfl rfl ?_
          refine gf_X3_figures  in_X3_closePartIfWhole_X3 lk_X3_closePartIfWhole_18 dX3_closePartIfWhole_72 ?_
          refine ro_iconst (v := 1) dX3_closePartIfWhole_75 (by decide) ?_
          refine ro_ai ar_9 (k := 1) rfl (by omega) dX3_closePartIfWhole_76 ?_
          rw [hR.2.2.2.1 hp 1 (by omega)]
          refine ro_aload_n dX3_closePartIfWhole_77 rfl rfl ?_
          refine gf_X3_figures  in_X3_closePartIfWhole_X3 lk_X3_closePartIfWhole_18 dX3_closePartIfWhole_78 ?_
          refine ro_iconst (v := 2) dX3_closePartIfWhole_81 (by decide) ?_
          refine ro_ai ar_9 (k := 2) rfl (by omega) dX3_closePartIfWhole_82 ?_
          rw [hR.2.2.2.1 hp 2 (by omega)]
          refine ro_callV3Q ok_X2_addSaying (ct_addSaying hR.2.2.2.2 (hS b50 b58)) (ce_X2 ln_23) rfl rfl gX3_closePartIfWhole_X2_addSaying (Nat.le_of_ble_eq_true rfl) (Nat.le_of_ble_eq_true rfl) dX3_closePartIfWhole_83 (fun v83 M83 L83 q83 => ?_)
          obtain ⟨rfl, hL83, ho83, rfl⟩ := q83
          refine ro_aload_n dX3_closePartIfWhole_86 rfl rfl ?_
          refine ro_iconst (v := 0) dX3_closePartIfWhole_87 (by decide) ?_
          refine pf_X3_part  in_X3_closePartIfWhole_X3 lk_X3_closePartIfWhole_29  dX3_closePartIfWhole_88 (fun M88 e88 => ?_)
          refine ro_goto 129 dX3_closePartIfWhole_91 (by decide) ?_
          refine ro_vret rfl dX3_closePartIfWhole_129 ?_
          first
            | (have q1 : OnlyRd M M38 := (OnlyRd.ln ho33).tr (OnlyRd.up e38 (Or.inl rfl))
               have r8 : M38 8 = upd (M 8) 3 0 := by rw [e38, va_up_self, ho33 8 (by omega)]
               rw [show ps_close p = _ from ps_cl_H (b := ps_b p) (pt := ps_p p) (k := ps_k p) (f := ps_f p) (l := ps_l p) b6 b14]
               refine ⟨rfl, ⟨by rw [r8, pk_un (by decide)]; exact hR.1, by rw [r8, pk_us]; rfl, fun z => absurd rfl z, fun z => absurd rfl z, hL33.keep (fun i h1 h2 => by rw [e38, va_up_ne _ _ (by omega)])⟩, q1, rfl⟩)
            | (have q1 : OnlyRd M M88 := (OnlyRd.ln ho83).tr (OnlyRd.up e88 (Or.inl rfl))
               have r8 : M88 8 = upd (M 8) 3 0 := by rw [e88, va_up_self, ho83 8 (by omega)]
               rw [show ps_close p = _ from ps_cl_S (b := ps_b p) (pt := ps_p p) (k := ps_k p) (f := ps_f p) (l := ps_l p) b50 b58]
               refine ⟨rfl, ⟨by rw [r8, pk_un (by decide)]; exact hR.1, by rw [r8, pk_us]; rfl, fun z => absurd rfl z, fun z => absurd rfl z, hL83.keep (fun i h1 h2 => by rw [e88, va_up_ne _ _ (by omega)])⟩, q1, rfl⟩)
            | (have q1 : OnlyRd M M126 := (OnlyRd.ln ho121).tr (OnlyRd.up e126 (Or.inl rfl))
               have r8 : M126 8 = upd (M 8) 3 0 := by rw [e126, va_up_self, ho121 8 (by omega)]
               rw [show ps_close p = _ from ps_cl_R (b := ps_b p) (pt := ps_p p) (k := ps_k p) (f := ps_f p) (l := ps_l p) b100 b108]
               refine ⟨rfl, ⟨by rw [r8, pk_un (by decide)]; exact hR.1, by rw [r8, pk_us]; rfl, fun z => absurd rfl z, fun z => absurd rfl z, hL121.keep (fun i h1 h2 => by rw [e126, va_up_ne _ _ (by omega)])⟩, q1, rfl⟩)
            | (rw [show ps_close p = p from ps_cl_N (b := ps_b p) (pt := ps_p p) (k := ps_k p) (f := ps_f p) (l := ps_l p) (by omega) (by omega) (by omega)]
               exact ⟨rfl, hR, OnlyRd.rf, rfl⟩)
    · replace b14 : ps_k p = 2 := (nI_eq (b := 2) (by omega) (by decide)).mp b14
      refine ro_aload_n dX3_closePartIfWhole_17 rfl rfl ?_
      refine gf_X3_draft  in_X3_closePartIfWhole_X3 lk_X3_closePartIfWhole_12 dX3_closePartIfWhole_18 ?_
      refine ro_aload_n dX3_closePartIfWhole_21 rfl rfl ?_
      refine gf_X3_figures  in_X3_closePartIfWhole_X3 lk_X3_closePartIfWhole_18 dX3_closePartIfWhole_22 ?_
      refine ro_iconst (v := 0) dX3_closePartIfWhole_25 (by decide) ?_
      refine ro_ai ar_9 (k := 0) rfl (by omega) dX3_closePartIfWhole_26 ?_
      rw [hR.2.2.2.1 hp 0 (by omega)]
      refine ro_aload_n dX3_closePartIfWhole_27 rfl rfl ?_
      refine gf_X3_figures  in_X3_closePartIfWhole_X3 lk_X3_closePartIfWhole_18 dX3_closePartIfWhole_28 ?_
      refine ro_iconst (v := 1) dX3_closePartIfWhole_31 (by decide) ?_
      refine ro_ai ar_9 (k := 1) rfl (by omega) dX3_closePartIfWhole_32 ?_
      rw [hR.2.2.2.1 hp 1 (by omega)]
      refine ro_callV2Q ok_X2_addHouse (ct_addHouse hR.2.2.2.2 (hH b6 b14)) (ce_X2 ln_23) rfl rfl gX3_closePartIfWhole_X2_addHouse (Nat.le_of_ble_eq_true rfl) (Nat.le_of_ble_eq_true rfl) dX3_closePartIfWhole_33 (fun v33 M33 L33 q33 => ?_)
      obtain ⟨rfl, hL33, ho33, rfl⟩ := q33
      refine ro_aload_n dX3_closePartIfWhole_36 rfl rfl ?_
      refine ro_iconst (v := 0) dX3_closePartIfWhole_37 (by decide) ?_
      refine pf_X3_part  in_X3_closePartIfWhole_X3 lk_X3_closePartIfWhole_29  dX3_closePartIfWhole_38 (fun M38 e38 => ?_)
      refine ro_goto 129 dX3_closePartIfWhole_41 (by decide) ?_
      refine ro_vret rfl dX3_closePartIfWhole_129 ?_
      first
        | (have q1 : OnlyRd M M38 := (OnlyRd.ln ho33).tr (OnlyRd.up e38 (Or.inl rfl))
           have r8 : M38 8 = upd (M 8) 3 0 := by rw [e38, va_up_self, ho33 8 (by omega)]
           rw [show ps_close p = _ from ps_cl_H (b := ps_b p) (pt := ps_p p) (k := ps_k p) (f := ps_f p) (l := ps_l p) b6 b14]
           refine ⟨rfl, ⟨by rw [r8, pk_un (by decide)]; exact hR.1, by rw [r8, pk_us]; rfl, fun z => absurd rfl z, fun z => absurd rfl z, hL33.keep (fun i h1 h2 => by rw [e38, va_up_ne _ _ (by omega)])⟩, q1, rfl⟩)
        | (have q1 : OnlyRd M M88 := (OnlyRd.ln ho83).tr (OnlyRd.up e88 (Or.inl rfl))
           have r8 : M88 8 = upd (M 8) 3 0 := by rw [e88, va_up_self, ho83 8 (by omega)]
           rw [show ps_close p = _ from ps_cl_S (b := ps_b p) (pt := ps_p p) (k := ps_k p) (f := ps_f p) (l := ps_l p) b50 b58]
           refine ⟨rfl, ⟨by rw [r8, pk_un (by decide)]; exact hR.1, by rw [r8, pk_us]; rfl, fun z => absurd rfl z, fun z => absurd rfl z, hL83.keep (fun i h1 h2 => by rw [e88, va_up_ne _ _ (by omega)])⟩, q1, rfl⟩)
        | (have q1 : OnlyRd M M126 := (OnlyRd.ln ho121).tr (OnlyRd.up e126 (Or.inl rfl))
           have r8 : M126 8 = upd (M 8) 3 0 := by rw [e126, va_up_self, ho121 8 (by omega)]
           rw [show ps_close p = _ from ps_cl_R (b := ps_b p) (pt := ps_p p) (k := ps_k p) (f := ps_f p) (l := ps_l p) b100 b108]
           refine ⟨rfl, ⟨by rw [r8, pk_un (by decide)]; exact hR.1, by rw [r8, pk_us]; rfl, fun z => absurd rfl z, fun z => absurd rfl z, hL121.keep (fun i h1 h2 => by rw [e126, va_up_ne _ _ (by omega)])⟩, q1, rfl⟩)
        | (rw [show ps_close p = p from ps_cl_N (b := ps_b p) (pt := ps_p p) (k := ps_k p) (f := ps_f p) (l := ps_l p) (by omega) (by omega) (by omega)]
           exact ⟨rfl, hR, OnlyRd.rf, rfl⟩)
theorem pstep_b {p : PS} {x : Nat} (hb : ps_b p = false) : pstep p x = if x = 69 then some (true, ps_p p, ps_k p, ps_f p, ps_l p) else none := if_pos hb
theorem pstep_o {p : PS} {x : Nat} (hb : ps_b p = true) (hp : ps_p p = 0) : (ps_opens (ps_l p) x → pstep p x = some (true, x, 0, ps_f p, ps_l p)) ∧ (¬ ps_opens (ps_l p) x → pstep p x = none) := by
  unfold pstep
  rw [if_neg (by rw [hb]; decide), if_pos hp]
  exact ⟨fun h => if_pos h, fun h => if_neg h⟩
theorem pstep_f {p : PS} {x : Nat} (hb : ps_b p = true) (hp : ps_p p ≠ 0) : pstep p x = if 48 ≤ x ∧ x - 48 < ps_lim p ∧ ps_k p < 3 then some (ps_close (true, ps_p p, ps_k p + 1, va_up (ps_f p) (ps_k p) (x - 48), ps_l p)) else none := by
  unfold pstep
  rw [if_neg (by rw [hb]; decide), if_neg hp]
theorem ps_pk {p : PS} (ok : PsOK p) : ps_p p ≤ 255 ∧ (ps_p p ≠ 0 → ps_k p < 3) ∧ ps_lim p ≤ 10 := by
  have h5 := ok.1.1
  refine ⟨by rcases ok.2 with h | h | h | h <;> omega, fun z => by rcases ok.2 with h | h | h | h <;> omega, ?_⟩
  unfold ps_lim
  split
  · omega
  · split
    · omega
    · split <;> omega
theorem ct_accepts {g : GT} {M : MM} {L : LL} {p : PS} {x : Nat} (hR : ReaderR M p) (ok : PsOK p) (hx : x ≤ 255) : CTQ g mX3_accepts 2 [.ref (dq_A g 8), .int (nI x)] M L (fun v M' L' => (∃ w : Bool, v = some (.int (bI w)) ∧ (w = true → ∃ q, pstep p x = some q ∧ ReaderR M' q) ∧ (w = false → pstep p x = none ∧ ReaderR M' p)) ∧ OnlyRd M M' ∧ L' = L) := by
  have hpk := ps_pk ok
  refine ct_of ok_X3_accepts (lv := [some (.ref (dq_A g 8)), some (.int (nI x)), none]) rfl (Nat.le_of_ble_eq_true rfl) ?_
  refine ro_aload_n dX3_accepts_0 rfl rfl ?_
  refine gf_X3_begun  in_X3_accepts_X3 lk_X3_accepts_25 dX3_accepts_1 ?_
  rw [hR.1]
  refine ro_if_ne 27 dX3_accepts_4 (by decide) (fun b4 => ?_) (fun b4 => ?_)
  · rw [bI_ne0] at b4
    refine ro_aload_n dX3_accepts_27 rfl rfl ?_
    refine gf_X3_part  in_X3_accepts_X3 lk_X3_accepts_29 dX3_accepts_28 ?_
    rw [hR.2.1]
    refine ro_if_ne 40 dX3_accepts_31 (by decide) (fun b31 => ?_) (fun b31 => ?_)
    · replace b31 : ps_p p ≠ 0 := fun z => b31 (by rw [z]; rfl)
      have hk3 := hpk.2.1 b31
      refine ro_iload_n dX3_accepts_40 rfl rfl ?_
      refine ro_bipush (v := 48) dX3_accepts_41 (by decide) ?_
      refine ro_isub dX3_accepts_43 ?_
      refine ro_top (show _ = oI ((x : Int) - 48) from by rw [show (48 : Int32) = oI 48 from rfl, nI_oI, oI_sub]) ?_
      refine ro_istore_n2 dX3_accepts_44 (Nat.le_of_ble_eq_true rfl) rfl ?_
      refine ro_iload_n dX3_accepts_45 rfl rfl ?_
      refine ro_if_lt 65 dX3_accepts_46 (by decide) (fun b46 => ?_) (fun b46 => ?_)
      · replace b46 : x < 48 := by rw [show (0 : Int32) = oI 0 from rfl, oI_lt (by omega) (by omega) (by omega) (by omega)] at b46; omega
        refine ro_iconst (v := 0) dX3_accepts_65 (by decide) ?_
        refine ro_zret rfl rfl dX3_accepts_66 ?_
        refine ⟨⟨false, rfl, fun z => absurd z (by decide), fun _ => ⟨by rw [pstep_f b4 b31, if_neg (by omega)], hR⟩⟩, OnlyRd.rf, rfl⟩
      · replace b46 : ¬ x < 48 := fun z => b46 (by rw [show (0 : Int32) = oI 0 from rfl, oI_lt (by omega) (by omega) (by omega) (by omega)]; omega)
        obtain ⟨y, rfl⟩ : ∃ y, x = 48 + y := ⟨x - 48, by omega⟩
        rw [show oI (((48 + y : Nat) : Int) - 48) = nI y from by rw [nI_oI]; congr 1; omega]
        refine ro_iload_n dX3_accepts_49 rfl rfl ?_
        refine ro_aload_n dX3_accepts_50 rfl rfl ?_
        refine ro_callV0 ok_X3_figureLimit (ct_figLim hR b31 hpk.1 (by omega)) ce_X3 rfl rfl gX3_accepts_X3_figureLimit (Nat.le_of_ble_eq_true rfl) (Nat.le_of_ble_eq_true rfl) dX3_accepts_51 ?_
        refine ro_icmp_ge 65 dX3_accepts_54 (by decide) (fun b54 => ?_) (fun b54 => ?_)
        · rw [nI_leI (by omega) (by omega)] at b54
          refine ro_iconst (v := 0) dX3_accepts_65 (by decide) ?_
          refine ro_zret rfl rfl dX3_accepts_66 ?_
          refine ⟨⟨false, rfl, fun z => absurd z (by decide), fun _ => ⟨by rw [pstep_f b4 b31, if_neg (by omega)], hR⟩⟩, OnlyRd.rf, rfl⟩
        · rw [nI_leI (by omega) (by omega)] at b54
          refine ro_aload_n dX3_accepts_57 rfl rfl ?_
          refine gf_X3_figuresRead  in_X3_accepts_X3 lk_X3_accepts_44 dX3_accepts_58 ?_
          rw [hR.2.2.1 b31]
          refine ro_iconst (v := 3) dX3_accepts_61 (by decide) ?_
          refine ro_icmp_lt 67 dX3_accepts_62 (by decide) (fun b62 => ?_) (fun b62 => ?_)
          · replace b62 : ps_k p < 3 := (nI_ltI (b := 3) (by omega) (by decide)).mp b62
            refine ro_aload_n dX3_accepts_67 rfl rfl ?_
            refine gf_X3_figures  in_X3_accepts_X3 lk_X3_accepts_18 dX3_accepts_68 ?_
            refine ro_aload_n dX3_accepts_71 rfl rfl ?_
            refine gf_X3_figuresRead  in_X3_accepts_X3 lk_X3_accepts_44 dX3_accepts_72 ?_
            rw [hR.2.2.1 b31]
            refine ro_iload_n dX3_accepts_75 rfl rfl ?_
            refine ro_as ar_9 rfl (by omega) dX3_accepts_76 (fun M76 e76 => ?_)
            refine ro_aload_n dX3_accepts_77 rfl rfl ?_
            refine ro_dup dX3_accepts_78 rfl ?_
            refine gf_X3_figuresRead  in_X3_accepts_X3 lk_X3_accepts_44 dX3_accepts_79 ?_
            rw [show M76 8 4 = nI (ps_k p) by rw [e76, va_up_ne _ _ (by decide)]; exact hR.2.2.1 b31]
            refine ro_iconst (v := 1) dX3_accepts_82 (by decide) ?_
            refine ro_iadd dX3_accepts_83 ?_
            rw [nI_1]
            refine pf_X3_figuresRead  in_X3_accepts_X3 lk_X3_accepts_44  dX3_accepts_84 (fun M84 e84 => ?_)
            have ho84 : OnlyRd M M84 := (OnlyRd.up e76 (Or.inr rfl)).tr (OnlyRd.up e84 (Or.inl rfl))
            have r8 : M84 8 = upd (M 8) 4 (nI (ps_k p + 1)) := by rw [e84, va_up_self, e76, va_up_ne _ _ (by decide)]
            have r9 : M84 9 = upd (M 9) (ps_k p) (nI y) := by rw [e84, va_up_ne _ _ (by decide), e76, va_up_self]
            have hR84 : ReaderR M84 (true, ps_p p, ps_k p + 1, va_up (ps_f p) (ps_k p) y, ps_l p) := by
              refine ⟨by rw [r8, pk_un (by decide), hR.1, b4]; rfl, by rw [r8, pk_un (by decide)]; exact hR.2.1, fun _ => by rw [r8, pk_us]; rfl, fun _ => ?_, hR.2.2.2.2.keep (fun i h1 h2 => by rw [e84, va_up_ne _ _ (by omega), e76, va_up_ne _ _ (by omega)])⟩
              rw [r9]
              exact row_add (hR.2.2.2.1 b31)
            refine ro_aload_n dX3_accepts_87 rfl rfl ?_
            refine ro_callV0Q ok_X3_closePartIfWhole (ct_close (p := (true, ps_p p, ps_k p + 1, va_up (ps_f p) (ps_k p) y, ps_l p)) hR84 b31 hpk.1 (by show ps_k p + 1 ≤ 3; omega) (fun z1 _ => by rcases ok.2 with h | h | h | h <;> first | exact h.2.2.1 | exact absurd z1 (by show ¬ ps_p p = 72; omega)) (fun z1 _ => by rcases ok.2 with h | h | h | h <;> first | exact h.2.2.1 | exact absurd z1 (by show ¬ ps_p p = 83; omega)) (fun z1 _ => by rcases ok.2 with h | h | h | h <;> first | exact h.2.2 | exact absurd z1 (by show ¬ ps_p p = 82; omega))) ce_X3 rfl rfl gX3_accepts_X3_closePartIfWhole (Nat.le_of_ble_eq_true rfl) (Nat.le_of_ble_eq_true rfl) dX3_accepts_88 (fun v88 M88 L88 q88 => ?_)
            obtain ⟨rfl, hR88, ho88, rfl⟩ := q88
            refine ro_iconst (v := 1) dX3_accepts_91 (by decide) ?_
            refine ro_zret rfl rfl dX3_accepts_92 ?_
            refine ⟨⟨true, rfl, fun _ => ⟨_, by rw [pstep_f b4 b31, if_pos (by omega)], ?_⟩, fun z => absurd z (by decide)⟩, ho84.tr ho88, rfl⟩
            rw [show 48 + y - 48 = y by omega]
            exact hR88
          · replace b62 : ¬ ps_k p < 3 := fun z => b62 ((nI_ltI (b := 3) (by omega) (by decide)).mpr z)
            refine ro_iconst (v := 0) dX3_accepts_65 (by decide) ?_
            refine ro_zret rfl rfl dX3_accepts_66 ?_
            refine ⟨⟨false, rfl, fun z => absurd z (by decide), fun _ => ⟨by rw [pstep_f b4 b31, if_neg (by omega)], hR⟩⟩, OnlyRd.rf, rfl⟩
    · replace b31 : ps_p p = 0 := (nI_eq (b := 0) (by omega) (by decide)).mp b31
      refine ro_aload_n dX3_accepts_34 rfl rfl ?_
      refine ro_iload_n dX3_accepts_35 rfl rfl ?_
      refine ro_callV1Q ok_X3_opensPart (ct_opens hR ok.1 hx) ce_X3 rfl rfl gX3_accepts_X3_opensPart (Nat.le_of_ble_eq_true rfl) (Nat.le_of_ble_eq_true rfl) dX3_accepts_36 (fun v36 M36 L36 q36 => ?_)
      obtain ⟨⟨w36, rfl, ht36, hf36⟩, ho36, rfl⟩ := q36
      refine ro_zret rfl (bI_nar w36) dX3_accepts_39 ?_
      refine ⟨⟨w36, rfl, fun z => ⟨(true, x, 0, ps_f p, ps_l p), (pstep_o b4 b31).1 (ht36 z).1, by have h9 := (ht36 z).2; rw [b4] at h9; exact h9⟩, fun z => ⟨(pstep_o b4 b31).2 (hf36 z).1, by rw [(hf36 z).2]; exact hR⟩⟩, ho36, rfl⟩
  · rw [bI_eq0] at b4
    refine ro_aload_n dX3_accepts_7 rfl rfl ?_
    refine ro_iload_n dX3_accepts_8 rfl rfl ?_
    refine ro_bipush (v := 69) dX3_accepts_9 (by decide) ?_
    refine ro_icmp_ne 18 dX3_accepts_11 (by decide) (fun b11 => ?_) (fun b11 => ?_)
    · replace b11 : ¬ x = 69 := fun z => b11 (by rw [z]; rfl)
      refine ro_iconst (v := 0) dX3_accepts_18 (by decide) ?_
      refine pf_X3_begun  in_X3_accepts_X3 lk_X3_accepts_25 rfl rfl dX3_accepts_19 (fun M19 e19 => ?_)
      refine ro_aload_n dX3_accepts_22 rfl rfl ?_
      refine gf_X3_begun  in_X3_accepts_X3 lk_X3_accepts_25 dX3_accepts_23 ?_
      first
        | refine ro_top (show M19 8 2 = 1 from by rw [e19, va_up_self]; exact pk_us) ?_
        | refine ro_top (show M19 8 2 = 0 from by rw [e19, va_up_self]; exact pk_us) ?_
      refine ro_zret rfl rfl dX3_accepts_26 ?_
      first
        | (have q1 : OnlyRd M M19 := OnlyRd.up e19 (Or.inl rfl)
           refine ⟨⟨true, rfl, fun _ => ⟨(true, ps_p p, ps_k p, ps_f p, ps_l p), by rw [pstep_b b4, if_pos b11], ?_⟩, fun z => absurd z (by decide)⟩, q1, rfl⟩
           have r8 : M19 8 = upd (M 8) 2 1 := by rw [e19, va_up_self]
           exact ⟨by rw [r8, pk_us]; rfl, by rw [r8, pk_un (by decide)]; exact hR.2.1, fun z => by rw [r8, pk_un (by decide)]; exact hR.2.2.1 z, fun z => by rw [e19, va_up_ne _ _ (by decide)]; exact hR.2.2.2.1 z, hR.2.2.2.2.keep (fun i h1 h2 => by rw [e19, va_up_ne _ _ (by omega)])⟩)
        | (have q1 : OnlyRd M M19 := OnlyRd.up e19 (Or.inl rfl)
           refine ⟨⟨false, rfl, fun z => absurd z (by decide), fun _ => ⟨by rw [pstep_b b4, if_neg b11], ?_⟩⟩, q1, rfl⟩
           have r8 : M19 8 = upd (M 8) 2 0 := by rw [e19, va_up_self]
           exact ⟨by rw [r8, pk_us, b4]; rfl, by rw [r8, pk_un (by decide)]; exact hR.2.1, fun z => by rw [r8, pk_un (by decide)]; exact hR.2.2.1 z, fun z => by rw [e19, va_up_ne _ _ (by decide)]; exact hR.2.2.2.1 z, hR.2.2.2.2.keep (fun i h1 h2 => by rw [e19, va_up_ne _ _ (by omega)])⟩)
    · replace b11 : x = 69 := (nI_eq (b := 69) (by omega) (by decide)).mp b11
      refine ro_iconst (v := 1) dX3_accepts_14 (by decide) ?_
      refine ro_goto 19 dX3_accepts_15 (by decide) ?_
      refine pf_X3_begun  in_X3_accepts_X3 lk_X3_accepts_25 rfl rfl dX3_accepts_19 (fun M19 e19 => ?_)
      refine ro_aload_n dX3_accepts_22 rfl rfl ?_
      refine gf_X3_begun  in_X3_accepts_X3 lk_X3_accepts_25 dX3_accepts_23 ?_
      first
        | refine ro_top (show M19 8 2 = 1 from by rw [e19, va_up_self]; exact pk_us) ?_
        | refine ro_top (show M19 8 2 = 0 from by rw [e19, va_up_self]; exact pk_us) ?_
      refine ro_zret rfl rfl dX3_accepts_26 ?_
      first
        | (have q1 : OnlyRd M M19 := OnlyRd.up e19 (Or.inl rfl)
           refine ⟨⟨true, rfl, fun _ => ⟨(true, ps_p p, ps_k p, ps_f p, ps_l p), by rw [pstep_b b4, if_pos b11], ?_⟩, fun z => absurd z (by decide)⟩, q1, rfl⟩
           have r8 : M19 8 = upd (M 8) 2 1 := by rw [e19, va_up_self]
           exact ⟨by rw [r8, pk_us]; rfl, by rw [r8, pk_un (by decide)]; exact hR.2.1, fun z => by rw [r8, pk_un (by decide)]; exact hR.2.2.1 z, fun z => by rw [e19, va_up_ne _ _ (by decide)]; exact hR.2.2.2.1 z, hR.2.2.2.2.keep (fun i h1 h2 => by rw [e19, va_up_ne _ _ (by omega)])⟩)
        | (have q1 : OnlyRd M M19 := OnlyRd.up e19 (Or.inl rfl)
           refine ⟨⟨false, rfl, fun z => absurd z (by decide), fun _ => ⟨by rw [pstep_b b4, if_neg b11], ?_⟩⟩, q1, rfl⟩
           have r8 : M19 8 = upd (M 8) 2 0 := by rw [e19, va_up_self]
           exact ⟨by rw [r8, pk_us, b4]; rfl, by rw [r8, pk_un (by decide)]; exact hR.2.1, fun z => by rw [r8, pk_un (by decide)]; exact hR.2.2.1 z, fun z => by rw [e19, va_up_ne _ _ (by decide)]; exact hR.2.2.2.1 z, hR.2.2.2.2.keep (fun i h1 h2 => by rw [e19, va_up_ne _ _ (by omega)])⟩)
theorem lp_fault {g : GT} {L : LL} {t : Nat → Nat} {len : Nat} {M0 : MM} (h64 : len ≤ 64) (h255 : ∀ j, j < len → t j ≤ 255) : ∀ (k i : Nat), i + k = len → ∀ (p : PS) (M : MM), ReaderR M p → PsOK p → OnlyRd M0 M → (∀ j, j < len → M 1 j = nI (t j)) → pscan t len 0 ps_0 = pscan t k i p → JW g mX3_firstFault 3 (fun v M' L' => v = some (.int (pscan t len 0 ps_0).1) ∧ LaneR M' 23 (ps_l (pscan t len 0 ps_0).2) ∧ LnOK (ps_l (pscan t len 0 ps_0).2) ∧ OnlyRd M0 M' ∧ L' = L) M L 19 [some (.ref (dq_A g 8)), some (.ref (dq_A g 1)), some (.int (nI len)), some (.int (nI i))] [] := by
  intro k
  induction k with
  | zero =>
    intro i hi p M hR okp ho hT hsc
    refine ro_iload_n dX3_firstFault_19 rfl rfl ?_
    refine ro_iload_n dX3_firstFault_20 rfl rfl ?_
    refine ro_icmp_ge 48 dX3_firstFault_21 (by decide) (fun b21 => ?_) (fun b21 => ?_)
    · refine ro_aload_n dX3_firstFault_48 rfl rfl ?_
      refine gf_X3_begun  in_X3_firstFault_X3 lk_X3_firstFault_25 dX3_firstFault_49 ?_
      rw [hR.1]
      refine ro_if_eq 67 dX3_firstFault_52 (by decide) (fun b52 => ?_) (fun b52 => ?_)
      · rw [bI_eq0] at b52
        refine ro_iload_n dX3_firstFault_67 rfl rfl ?_
        refine ro_iret rfl dX3_firstFault_68 ?_
        have e : i = len := by omega
        subst e
        have e2 : pscan t i 0 ps_0 = pscan t 0 i p := hsc
        rw [e2]
        refine ⟨?_, hR.2.2.2.2, okp.1, ho, rfl⟩
        first
          | (rw [pscan, if_pos ⟨b52, b59⟩]; done)
          | (rw [pscan, if_neg (fun z => b59 z.2)]; done)
          | (rw [pscan, if_neg (fun z => by rw [b52] at z; exact absurd z.1 (by decide))]; done)
      · rw [bI_ne0] at b52
        refine ro_aload_n dX3_firstFault_55 rfl rfl ?_
        refine gf_X3_part  in_X3_firstFault_X3 lk_X3_firstFault_29 dX3_firstFault_56 ?_
        rw [hR.2.1]
        refine ro_if_ne 67 dX3_firstFault_59 (by decide) (fun b59 => ?_) (fun b59 => ?_)
        · replace b59 : ¬ ps_p p = 0 := fun z => b59 (by rw [z]; rfl)
          refine ro_iload_n dX3_firstFault_67 rfl rfl ?_
          refine ro_iret rfl dX3_firstFault_68 ?_
          have e : i = len := by omega
          subst e
          have e2 : pscan t i 0 ps_0 = pscan t 0 i p := hsc
          rw [e2]
          refine ⟨?_, hR.2.2.2.2, okp.1, ho, rfl⟩
          first
            | (rw [pscan, if_pos ⟨b52, b59⟩]; done)
            | (rw [pscan, if_neg (fun z => b59 z.2)]; done)
            | (rw [pscan, if_neg (fun z => by rw [b52] at z; exact absurd z.1 (by decide))]; done)
        · replace b59 : ps_p p = 0 := (nI_eq (b := 0) (by have := (ps_pk okp).1; omega) (by decide)).mp b59
          refine ro_bipush (v := -9) dX3_firstFault_62 (by decide) ?_
          refine ro_goto 68 dX3_firstFault_64 (by decide) ?_
          refine ro_iret rfl dX3_firstFault_68 ?_
          have e : i = len := by omega
          subst e
          have e2 : pscan t i 0 ps_0 = pscan t 0 i p := hsc
          rw [e2]
          refine ⟨?_, hR.2.2.2.2, okp.1, ho, rfl⟩
          first
            | (rw [pscan, if_pos ⟨b52, b59⟩]; done)
            | (rw [pscan, if_neg (fun z => b59 z.2)]; done)
            | (rw [pscan, if_neg (fun z => by rw [b52] at z; exact absurd z.1 (by decide))]; done)
    · exact absurd (nI_le (by omega) (by omega)) b21
  | succ k ih =>
    intro i hi p M hR okp ho hT hsc
    refine ro_iload_n dX3_firstFault_19 rfl rfl ?_
    refine ro_iload_n dX3_firstFault_20 rfl rfl ?_
    refine ro_icmp_ge 48 dX3_firstFault_21 (by decide) (fun b21 => ?_) (fun b21 => ?_)
    · exact absurd b21 (nI_ge (by omega) (by omega))
    · refine ro_iload_n dX3_firstFault_24 rfl rfl ?_
      refine ro_aload_n dX3_firstFault_25 rfl rfl ?_
      refine ro_al ar_1 dX3_firstFault_26 ?_
      refine ro_icmp_ge 48 dX3_firstFault_27 (by decide) (fun b27 => ?_) (fun b27 => ?_)
      · exact absurd b27 (nI_ge (b := 64) (by omega) (by decide))
      · refine ro_aload_n dX3_firstFault_30 rfl rfl ?_
        refine ro_aload_n dX3_firstFault_31 rfl rfl ?_
        refine ro_iload_n dX3_firstFault_32 rfl rfl ?_
        refine ro_ai ar_1 rfl (by omega) dX3_firstFault_33 ?_
        rw [hT i (by omega)]
        refine ro_callV1Q ok_X3_accepts (ct_accepts hR okp (h255 i (by omega))) ce_X3 rfl rfl gX3_firstFault_X3_accepts (Nat.le_of_ble_eq_true rfl) (Nat.le_of_ble_eq_true rfl) dX3_firstFault_34 (fun v34 M34 L34 q34 => ?_)
        obtain ⟨⟨w34, rfl, ht34, hf34⟩, ho34, rfl⟩ := q34
        refine ro_if_ne 42 dX3_firstFault_37 (by decide) (fun b37 => ?_) (fun b37 => ?_)
        · rw [bI_ne0] at b37
          obtain ⟨q, hq1, hq2⟩ := ht34 b37
          refine ro_iincP3 dX3_firstFault_42 (Nat.le_of_ble_eq_true rfl) rfl ?_
          refine ro_goto 19 dX3_firstFault_45 (by decide) ?_
          rw [nI_1]
          exact ih (i + 1) (by omega) q M34 hq2 (pstep_ok okp hq1) (ho.tr ho34) (fun j hj => by rw [ho34 1 (by decide) (by decide) (by omega)]; exact hT j hj) (hsc.trans (by rw [pscan, hq1]))
        · rw [bI_eq0] at b37
          obtain ⟨hq1, hq2⟩ := hf34 b37
          refine ro_iload_n dX3_firstFault_40 rfl rfl ?_
          refine ro_iret rfl dX3_firstFault_41 ?_
          have e2 : pscan t len 0 ps_0 = (nI i, p) := hsc.trans (by rw [pscan, hq1])
          rw [e2]
          exact ⟨rfl, hq2.2.2.2.2, okp.1, ho.tr ho34, rfl⟩
theorem ct_firstFault {g : GT} {M : MM} {L : LL} {t : Nat → Nat} {len : Nat} (h64 : len ≤ 64) (h255 : ∀ j, j < len → t j ≤ 255) (hT : ∀ j, j < len → M 1 j = nI (t j)) : CTQ g mX3_firstFault 3 [.ref (dq_A g 8), .ref (dq_A g 1), .int (nI len)] M L (fun v M' L' => v = some (.int (pscan t len 0 ps_0).1) ∧ LaneR M' 23 (ps_l (pscan t len 0 ps_0).2) ∧ LnOK (ps_l (pscan t len 0 ps_0).2) ∧ OnlyRd M M' ∧ L' = L) := by
  refine ct_of ok_X3_firstFault (lv := [some (.ref (dq_A g 8)), some (.ref (dq_A g 1)), some (.int (nI len)), none]) rfl (Nat.le_of_ble_eq_true rfl) ?_
  refine ro_aload_n dX3_firstFault_0 rfl rfl ?_
  refine gf_X3_draft  in_X3_firstFault_X3 lk_X3_firstFault_12 dX3_firstFault_1 ?_
  refine ro_callV0Q ok_X2_clear (ct_clear) (ce_X2 ln_23) rfl rfl gX3_firstFault_X2_clear (Nat.le_of_ble_eq_true rfl) (Nat.le_of_ble_eq_true rfl) dX3_firstFault_4 (fun v4 M4 L4 q4 => ?_)
  obtain ⟨rfl, hL4, ho4, rfl⟩ := q4
  refine ro_aload_n dX3_firstFault_7 rfl rfl ?_
  refine ro_iconst (v := 0) dX3_firstFault_8 (by decide) ?_
  refine pf_X3_begun  in_X3_firstFault_X3 lk_X3_firstFault_25 rfl rfl dX3_firstFault_9 (fun M9 e9 => ?_)
  refine ro_aload_n dX3_firstFault_12 rfl rfl ?_
  refine ro_iconst (v := 0) dX3_firstFault_13 (by decide) ?_
  refine pf_X3_part  in_X3_firstFault_X3 lk_X3_firstFault_29  dX3_firstFault_14 (fun M14 e14 => ?_)
  refine ro_iconst (v := 0) dX3_firstFault_17 (by decide) ?_
  refine ro_istore_n3 dX3_firstFault_18 (Nat.le_of_ble_eq_true rfl) rfl ?_
  have ho14 : OnlyRd M M14 := ((OnlyRd.ln ho4).tr (OnlyRd.up e9 (Or.inl rfl))).tr (OnlyRd.up e14 (Or.inl rfl))
  have r8 : M14 8 = upd (upd (M 8) 2 0) 3 0 := by rw [e14, va_up_self, e9, va_up_self, ho4 8 (by omega)]
  exact lp_fault h64 h255 len 0 (by omega) ps_0 M14 ⟨by rw [r8, pk_un (by decide), pk_us]; rfl, by rw [r8, pk_us]; rfl, fun z => absurd rfl z, fun z => absurd rfl z, hL4.keep (fun i h1 h2 => by rw [e14, va_up_ne _ _ (by omega), e9, va_up_ne _ _ (by omega)])⟩ ps0_ok ho14 (fun j hj => by rw [ho14 1 (by decide) (by decide) (by omega)]; exact hT j hj) rfl
