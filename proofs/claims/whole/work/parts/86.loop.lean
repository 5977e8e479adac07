theorem law_loop {g : GT} {b Ln : Nat} {xs : Nat → Int32} (hLn : Ln ≤ 3072) : ∀ (f i t : Nat), Ln < i + 6 * f + 6 → i ≤ 4000 → t + f < 2 ^ 19 → ∀ (M : MM) (L : LL) (S : ST), RC M L S → RR M L S → StOK t S → JL g b Ln xs M L 18 [some (.ref b), some (.ref (dq_A g 0)), some (.ref (dq_A g 102)), some (.int (nI i))] [] := by
  intro f
  induction f with
  | zero =>
    intro i t hi h4 ht M L S hC hR ok
    refine lo_iload_n dL_law_18 rfl rfl ?_
    refine lo_aload_n dL_law_19 rfl rfl ?_
    refine lo_slen dL_law_20 ?_
    refine lo_bipush (v := 6) dL_law_21 (by decide) ?_
    refine lo_isub dL_law_23 ?_
    have hcmp : (nI Ln - 6 < nI i) ↔ (Ln : Int) - 6 < (i : Int) := by
      rw [nI_oI i, nI_oI Ln, show (6 : Int32) = oI 6 from rfl, oI_sub, oI_lt (by omega) (by omega) (by omega) (by omega)]
    refine lo_icmp_gt 1033 dL_law_24 (by decide) (fun h24 => ?_) (fun h24 => ?_)
    · refine lo_iconst (v := 1) dL_law_1033 (by decide) ?_
      exact lo_ret dL_law_1034
    · exact absurd (hcmp.mpr (by omega)) h24
  | succ f ih =>
    intro i t hi h4 ht M L S hC hR ok
    refine lo_iload_n dL_law_18 rfl rfl ?_
    refine lo_aload_n dL_law_19 rfl rfl ?_
    refine lo_slen dL_law_20 ?_
    refine lo_bipush (v := 6) dL_law_21 (by decide) ?_
    refine lo_isub dL_law_23 ?_
    have hcmp : (nI Ln - 6 < nI i) ↔ (Ln : Int) - 6 < (i : Int) := by
      rw [nI_oI i, nI_oI Ln, show (6 : Int32) = oI 6 from rfl, oI_sub, oI_lt (by omega) (by omega) (by omega) (by omega)]
    refine lo_icmp_gt 1033 dL_law_24 (by decide) (fun h24 => ?_) (fun h24 => ?_)
    · refine lo_iconst (v := 1) dL_law_1033 (by decide) ?_
      exact lo_ret dL_law_1034
    · have hi5 : i + 5 < Ln := by rw [hcmp] at h24; omega
      have K : ∀ (M' : MM) (L' : LL) (S' : ST), RC M' L' S' → RR M' L' S' → StOK (t + 1) S' → JL g b Ln xs M' L' 1027 [some (.ref b), some (.ref (dq_A g 0)), some (.ref (dq_A g 102)), some (.int (nI i))] [] := by
        intro M' L' S' hC' hR' ok'
        refine lo_iinc dL_law_1027 (by decide) rfl rfl ?_
        refine lo_goto 18 dL_law_1030 (by decide) ?_
        have z := ih (i + 6) (t + 1) (by omega) (by omega) (by omega) M' L' S' hC' hR' ok'
        rw [← nI_add] at z
        exact z
      refine lo_aload_n dL_law_27 rfl rfl ?_
      refine lo_iload_n dL_law_28 rfl rfl ?_
      refine lo_sld (j := i) (by omega) (by omega) dL_law_29 ?_
      refine lo_bipush (v := 31) dL_law_30 (by decide) ?_
      refine lo_iand dL_law_32 ?_
      obtain ⟨j, hj, he⟩ := pk_andE (xs i) (m := 31) 5 (by decide)
      refine lo_top he ?_
      rcases (show j = 0 ∨ j = 1 ∨ j = 2 ∨ j = 3 ∨ j = 4 ∨ j = 5 ∨ j = 6 ∨ j = 7 ∨ j = 8 ∨ j = 9 ∨ j = 10 ∨ j = 11 ∨ j = 12 ∨ j = 13 ∨ j = 14 ∨ j = 15 ∨ j = 16 ∨ j = 17 ∨ j = 18 ∨ j = 19 ∨ j = 20 ∨ j = 21 ∨ j = 22 ∨ j = 23 ∨ j = 24 ∨ j = 25 ∨ j = 26 ∨ j = 27 ∨ 28 ≤ j by omega) with rfl | rfl | rfl | rfl | rfl | rfl | rfl | rfl | rfl | rfl | rfl | rfl | rfl | rfl | rfl | rfl | rfl | rfl | rfl | rfl | rfl | rfl | rfl | rfl | rfl | rfl | rfl | rfl | hj2
      · refine lo_tableIn 160 dL_law_33 (by decide) (by decide) rfl (by decide) ?_
        exact lc_write hi5 (by omega) hC hR ok (by omega) K
      · refine lo_tableIn 183 dL_law_33 (by decide) (by decide) rfl (by decide) ?_
        exact lc_wipe hi5 (by omega) hC hR ok (by omega) K
      · refine lo_tableIn 196 dL_law_33 (by decide) (by decide) rfl (by decide) ?_
        exact lc_fault hi5 (by omega) hC hR ok (by omega) K
      · refine lo_tableIn 209 dL_law_33 (by decide) (by decide) rfl (by decide) ?_
        exact lc_lane hi5 (by omega) hC hR ok (by omega) K
      · refine lo_tableIn 222 dL_law_33 (by decide) (by decide) rfl (by decide) ?_
        exact lc_house hi5 (by omega) hC hR ok (by omega) K
      · refine lo_tableIn 255 dL_law_33 (by decide) (by decide) rfl (by decide) ?_
        exact lc_saying hi5 (by omega) hC hR ok (by omega) K
      · refine lo_tableIn 288 dL_law_33 (by decide) (by decide) rfl (by decide) ?_
        exact lc_hour hi5 (by omega) hC hR ok (by omega) K
      · refine lo_tableIn 301 dL_law_33 (by decide) (by decide) rfl (by decide) ?_
        exact lc_lower hi5 (by omega) hC hR ok (by omega) K
      · refine lo_tableIn 324 dL_law_33 (by decide) (by decide) rfl (by decide) ?_
        exact lc_raise hi5 (by omega) hC hR ok (by omega) K
      · refine lo_tableIn 347 dL_law_33 (by decide) (by decide) rfl (by decide) ?_
        exact lc_change hi5 (by omega) hC hR ok (by omega) K
      · refine lo_tableIn 380 dL_law_33 (by decide) (by decide) rfl (by decide) ?_
        exact lc_plate hi5 (by omega) hC hR ok (by omega) K
      · refine lo_tableIn 403 dL_law_33 (by decide) (by decide) rfl (by decide) ?_
        exact lc_undo hi5 (by omega) hC hR ok (by omega) K
      · refine lo_tableIn 416 dL_law_33 (by decide) (by decide) rfl (by decide) ?_
        exact lc_later hi5 (by omega) hC hR ok (by omega) K
      · refine lo_tableIn 449 dL_law_33 (by decide) (by decide) rfl (by decide) ?_
        exact lc_first hi5 (by omega) hC hR ok (by omega) K
      · refine lo_tableIn 482 dL_law_33 (by decide) (by decide) rfl (by decide) ?_
        exact lc_keeps hi5 (by omega) hC hR ok (by omega) K
      · refine lo_tableIn 535 dL_law_33 (by decide) (by decide) rfl (by decide) ?_
        exact lc_tells hi5 (by omega) hC hR ok (by omega) K
      · refine lo_tableIn 568 dL_law_33 (by decide) (by decide) rfl (by decide) ?_
        exact lc_judge hi5 (by omega) hC hR ok (by omega) K
      · refine lo_tableIn 631 dL_law_33 (by decide) (by decide) rfl (by decide) ?_
        exact lc_hear hi5 (by omega) hC hR ok (by omega) K
      · refine lo_tableIn 674 dL_law_33 (by decide) (by decide) rfl (by decide) ?_
        exact lc_unhear hi5 (by omega) hC hR ok (by omega) K
      · refine lo_tableIn 687 dL_law_33 (by decide) (by decide) rfl (by decide) ?_
        exact lc_ears hi5 (by omega) hC hR ok (by omega) K
      · refine lo_tableIn 710 dL_law_33 (by decide) (by decide) rfl (by decide) ?_
        exact lc_share hi5 (by omega) hC hR ok (by omega) K
      · refine lo_tableIn 759 dL_law_33 (by decide) (by decide) rfl (by decide) ?_
        exact lc_rests hi5 (by omega) hC hR ok (by omega) K
      · refine lo_tableIn 802 dL_law_33 (by decide) (by decide) rfl (by decide) ?_
        exact lc_dries hi5 (by omega) hC hR ok (by omega) K
      · refine lo_tableIn 881 dL_law_33 (by decide) (by decide) rfl (by decide) ?_
        exact lc_seed hi5 (by omega) hC hR ok (by omega) K
      · refine lo_tableIn 935 dL_law_33 (by decide) (by decide) rfl (by decide) ?_
        exact lc_years hi5 (by omega) hC hR ok (by omega) K
      · refine lo_tableIn 958 dL_law_33 (by decide) (by decide) rfl (by decide) ?_
        exact lc_keep hi5 (by omega) hC hR ok (by omega) K
      · refine lo_tableIn 981 dL_law_33 (by decide) (by decide) rfl (by decide) ?_
        exact lc_again hi5 (by omega) hC hR ok (by omega) K
      · refine lo_tableIn 1004 dL_law_33 (by decide) (by decide) rfl (by decide) ?_
        exact lc_count hi5 (by omega) hC hR ok (by omega) K
      · refine lo_tableOut 1027 dL_law_33 (Or.inr (by rw [nI_toInt (by omega)]; omega)) (by decide) ?_
        exact K M L S hC hR (ok.up (by omega))
