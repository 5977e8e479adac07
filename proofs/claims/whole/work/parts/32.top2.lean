def zo (x : Int32) : Bool := decide (x = 0 ∨ x = 1)
theorem zo_ne {x : Int32} (h : zo x = true) (h0 : ¬ x = 0) : x = 1 := by
  simp only [zo, decide_eq_true_eq] at h
  exact h.resolve_left h0
theorem ct_isThing {g : GT} {M : MM} {L : LL} (x : Int32) : CT g mX5_isThing 0 [.int x] M L (some (.int (bI (hB 6 x)))) M L := by
  refine ct_of ok_X5_isThing (lv := [some (.int x)]) rfl (Nat.le_of_ble_eq_true rfl) ?_
  refine ro_iload_n dX5_isThing_0 rfl rfl ?_
  refine ro_if_lt 14 dX5_isThing_1 (by decide) (fun b1 => ?_) (fun b1 => ?_)
  · refine ro_iconst (v := 0) dX5_isThing_14 (by decide) ?_
    refine ro_zret rfl rfl dX5_isThing_15 ?_
    exact ⟨by simp [hB, bI, show nI 6 = (6 : Int32) from rfl, *], rfl, rfl⟩
  · refine ro_iload_n dX5_isThing_4 rfl rfl ?_
    refine ro_bipush (v := 6) dX5_isThing_5 (by decide) ?_
    refine ro_icmp_ge 14 dX5_isThing_7 (by decide) (fun b7 => ?_) (fun b7 => ?_)
    · refine ro_iconst (v := 0) dX5_isThing_14 (by decide) ?_
      refine ro_zret rfl rfl dX5_isThing_15 ?_
      exact ⟨by simp [hB, bI, show nI 6 = (6 : Int32) from rfl, *], rfl, rfl⟩
    · refine ro_iconst (v := 1) dX5_isThing_10 (by decide) ?_
      refine ro_goto 15 dX5_isThing_11 (by decide) ?_
      refine ro_zret rfl rfl dX5_isThing_15 ?_
      exact ⟨by simp [hB, bI, show nI 6 = (6 : Int32) from rfl, *], rfl, rfl⟩
theorem ct_isFigure {g : GT} {M : MM} {L : LL} (x : Int32) : CT g mX5_isFigure 0 [.int x] M L (some (.int (bI (hB 10 x)))) M L := by
  refine ct_of ok_X5_isFigure (lv := [some (.int x)]) rfl (Nat.le_of_ble_eq_true rfl) ?_
  refine ro_iload_n dX5_isFigure_0 rfl rfl ?_
  refine ro_if_lt 14 dX5_isFigure_1 (by decide) (fun b1 => ?_) (fun b1 => ?_)
  · refine ro_iconst (v := 0) dX5_isFigure_14 (by decide) ?_
    refine ro_zret rfl rfl dX5_isFigure_15 ?_
    exact ⟨by simp [hB, bI, show nI 10 = (10 : Int32) from rfl, *], rfl, rfl⟩
  · refine ro_iload_n dX5_isFigure_4 rfl rfl ?_
    refine ro_bipush (v := 10) dX5_isFigure_5 (by decide) ?_
    refine ro_icmp_ge 14 dX5_isFigure_7 (by decide) (fun b7 => ?_) (fun b7 => ?_)
    · refine ro_iconst (v := 0) dX5_isFigure_14 (by decide) ?_
      refine ro_zret rfl rfl dX5_isFigure_15 ?_
      exact ⟨by simp [hB, bI, show nI 10 = (10 : Int32) from rfl, *], rfl, rfl⟩
    · refine ro_iconst (v := 1) dX5_isFigure_10 (by decide) ?_
      refine ro_goto 15 dX5_isFigure_11 (by decide) ?_
      refine ro_zret rfl rfl dX5_isFigure_15 ?_
      exact ⟨by simp [hB, bI, show nI 10 = (10 : Int32) from rfl, *], rfl, rfl⟩
theorem ct_zo {g : GT} {M : MM} {L : LL} (x : Int32) : CT g mX5_isZeroOrOne 0 [.int x] M L (some (.int (bI (zo x)))) M L := by
  refine ct_of ok_X5_isZeroOrOne (lv := [some (.int x)]) rfl (Nat.le_of_ble_eq_true rfl) ?_
  refine ro_iload_n dX5_isZeroOrOne_0 rfl rfl ?_
  refine ro_if_eq 9 dX5_isZeroOrOne_1 (by decide) (fun b1 => ?_) (fun b1 => ?_)
  · refine ro_iconst (v := 1) dX5_isZeroOrOne_9 (by decide) ?_
    refine ro_goto 14 dX5_isZeroOrOne_10 (by decide) ?_
    refine ro_zret rfl rfl dX5_isZeroOrOne_14 ?_
    exact ⟨by simp [zo, bI, *], rfl, rfl⟩
  · refine ro_iload_n dX5_isZeroOrOne_4 rfl rfl ?_
    refine ro_iconst (v := 1) dX5_isZeroOrOne_5 (by decide) ?_
    refine ro_icmp_ne 13 dX5_isZeroOrOne_6 (by decide) (fun b6 => ?_) (fun b6 => ?_)
    · refine ro_iconst (v := 0) dX5_isZeroOrOne_13 (by decide) ?_
      refine ro_zret rfl rfl dX5_isZeroOrOne_14 ?_
      exact ⟨by simp [zo, bI, *], rfl, rfl⟩
    · refine ro_iconst (v := 1) dX5_isZeroOrOne_9 (by decide) ?_
      refine ro_goto 14 dX5_isZeroOrOne_10 (by decide) ?_
      refine ro_zret rfl rfl dX5_isZeroOrOne_14 ?_
      exact ⟨by simp [zo, bI, *], rfl, rfl⟩
def frst (l : LN) (k t : Nat) : Nat → Nat → SC → Int32
  | 0, _, _ => -9
  | f + 1, n, c => if (sc_kn c k).testBit t = true then nI n else frst l k t f (n + 1) (nextC l c)
def sp_first (S : ST) (x y : Int32) : Int32 × ST := (if hB (ln_n (st_l S)) x = true ∧ hB 6 y = true then frst (st_l S) (kx x) (kx y) 31 0 (st_c S) else -1, S)
theorem lp_first {g : GT} {L : LL} {ln : LN} {b k t : Nat} {c0 : SC} {M0 : MM} (ok : LnOK ln) (hk : k < ln_n ln) (ht : t < 6) (hb : b < 2 ^ 29) : ∀ (f i : Nat), i + f = 31 → ∀ (M : MM) (c : SC), LaneR M 16 ln → SceneR M 34 c → ScOK (ln_n ln) (b + i) c → OnlyB 34 37 M0 M → frst ln k t 31 0 c0 = frst ln k t f i c → JW g mX5_first 5 (fun v M' L' => v = some (.int (frst ln k t 31 0 c0)) ∧ OnlyB 34 37 M0 M' ∧ L' = L) M L 33 [some (.ref (dq_A g 0)), some (.int (nI k)), some (.int (nI t)), some (.int (nI i))] [] := by
  have a1 := ok.1
  intro f
  induction f with
  | zero =>
    intro i hi M c hL hS oc ho hf
    refine ro_iload_n dX5_first_33 rfl rfl ?_
    refine ro_bipush (v := 30) dX5_first_34 (by decide) ?_
    refine ro_icmp_gt 67 dX5_first_36 (by decide) (fun b36 => ?_) (fun b36 => ?_)
    · refine ro_bipush (v := -9) dX5_first_67 (by decide) ?_
      refine ro_iret rfl dX5_first_69 ?_
      exact ⟨by rw [hf]; rfl, ho, rfl⟩
    · exact absurd (nI_lt (a := 30) (by omega) (by omega)) b36
  | succ f ih =>
    intro i hi M c hL hS oc ho hf
    refine ro_iload_n dX5_first_33 rfl rfl ?_
    refine ro_bipush (v := 30) dX5_first_34 (by decide) ?_
    refine ro_icmp_gt 67 dX5_first_36 (by decide) (fun b36 => ?_) (fun b36 => ?_)
    · exact absurd b36 (nI_nlt (a := 30) (by omega) (by decide))
    · refine ro_aload_n dX5_first_39 rfl rfl ?_
      refine gf_X5_trial  in_X5_first_X5 lk_X5_first_56 dX5_first_40 ?_
      refine ro_iload_n dX5_first_43 rfl rfl ?_
      refine ro_iload_n dX5_first_44 rfl rfl ?_
      refine ro_callV2 ok_X4_knowsThing (ct_knowsThing sc_34 hS oc.2.2.1 (by omega) ht) (ce_X4 sc_34) rfl rfl gX5_first_X4_knowsThing (Nat.le_of_ble_eq_true rfl) (Nat.le_of_ble_eq_true rfl) dX5_first_45 ?_
      refine ro_if_eq 53 dX5_first_48 (by decide) (fun b48 => ?_) (fun b48 => ?_)
      · rw [bI_eq0] at b48
        refine ro_aload_n dX5_first_53 rfl rfl ?_
        refine gf_X5_trial  in_X5_first_X5 lk_X5_first_56 dX5_first_54 ?_
        refine ro_callV0Q ok_X4_passHour (ct_passHour sc_34 hL ok hS oc (by omega)) (ce_X4 sc_34) rfl rfl gX5_first_X4_passHour (Nat.le_of_ble_eq_true rfl) (Nat.le_of_ble_eq_true rfl) dX5_first_57 (fun v57 M57 L57 q57 => ?_)
        obtain ⟨rfl, hS57, ho57, rfl⟩ := q57
        refine ro_pop dX5_first_60 rfl ?_
        refine ro_iincP3 dX5_first_61 (Nat.le_of_ble_eq_true rfl) rfl ?_
        refine ro_goto 33 dX5_first_64 (by decide) ?_
        rw [nI_1]
        exact ih (i + 1) (by omega) M57 (nextC ln c) (hL.kS sc_34 ho57) hS57 (nextC_ok ok oc) (ho.tr ho57) (by rw [hf, frst, if_neg (by rw [b48]; decide)])
      · rw [bI_ne0] at b48
        refine ro_iload_n dX5_first_51 rfl rfl ?_
        refine ro_iret rfl dX5_first_52 ?_
        exact ⟨by rw [hf, frst, if_pos b48], ho, rfl⟩
theorem ct_first {g : GT} {M : MM} {L : LL} {S : ST} {b : Nat} {x y : Int32} (h : RC M L S) (ok : StOK b S) : CTQ g mX5_first 5 [.ref (dq_A g 0), .int x, .int y] M L (QC M L (sp_first S x y)) := by
  have hL := h.2.2.1
  have hS := h.2.2.2.1
  have hA := h.2.2.2.2.1
  have okl := ok.2.2.1
  have oc := ok.2.2.2.1
  have a1 := okl.1
  have hb := ok.2.2.2.2.2.2.2
  have h64 := ok.1
  refine ct_of ok_X5_first (lv := [some (.ref (dq_A g 0)), some (.int x), some (.int y), none]) rfl (Nat.le_of_ble_eq_true rfl) ?_
  refine ro_aload_n dX5_first_0 rfl rfl ?_
  refine gf_X5_told  in_X5_first_X5 lk_X5_first_38 dX5_first_1 ?_
  refine ro_iload_n dX5_first_4 rfl rfl ?_
  refine ro_callV1 ok_X2_hasHouse (ct_hasHouse ln_16 hL.1 x) (ce_X2 ln_16) rfl rfl gX5_first_X2_hasHouse (Nat.le_of_ble_eq_true rfl) (Nat.le_of_ble_eq_true rfl) dX5_first_5 ?_
  refine ro_if_eq 18 dX5_first_8 (by decide) (fun b8 => ?_) (fun b8 => ?_)
  · rw [bI_eq0] at b8
    refine ro_iconst (v := -1) dX5_first_18 (by decide) ?_
    refine ro_iret rfl dX5_first_19 ?_
    rw [show sp_first S x y = (-1, S) from by unfold sp_first; rw [if_neg (fun z => by first | (rw [b8] at z; exact absurd z.1 (by decide)) | (rw [b15] at z; exact absurd z.2 (by decide)))]]
    exact ⟨rfl, h, OnlySc.rf.all, rfl⟩
  · rw [bI_ne0] at b8
    refine ro_iload_n dX5_first_11 rfl rfl ?_
    refine ro_callS1 ok_X5_isThing (ct_isThing y) gX5_first_X5_isThing (Nat.le_of_ble_eq_true rfl) (Nat.le_of_ble_eq_true rfl) dX5_first_12 ?_
    refine ro_if_ne 20 dX5_first_15 (by decide) (fun b15 => ?_) (fun b15 => ?_)
    · rw [bI_ne0] at b15
      obtain ⟨k, hk, rfl⟩ := hB_some (by omega) b8
      obtain ⟨t, ht, rfl⟩ := hB_some (by omega) b15
      refine ro_aload_n dX5_first_20 rfl rfl ?_
      refine gf_X5_trial  in_X5_first_X5 lk_X5_first_56 dX5_first_21 ?_
      refine ro_aload_n dX5_first_24 rfl rfl ?_
      refine gf_X5_now  in_X5_first_X5 lk_X5_first_52 dX5_first_25 ?_
      refine ro_callV1Q ok_X4_take (ct_scTake sc_34 sc_30 (by omega) hS) (ce_X4 sc_34) rfl rfl gX5_first_X4_take (Nat.le_of_ble_eq_true rfl) (Nat.le_of_ble_eq_true rfl) dX5_first_28 (fun v28 M28 L28 q28 => ?_)
      obtain ⟨rfl, hS28, ho28, rfl⟩ := q28
      have hL28 := hL.kS sc_34 ho28
      refine ro_iconst (v := 0) dX5_first_31 (by decide) ?_
      refine ro_istore_n3 dX5_first_32 (Nat.le_of_ble_eq_true rfl) rfl ?_
      refine JW.mono ?_ (lp_first okl hk ht (by omega) 31 0 rfl M28 (st_c S) hL28 hS28 oc ho28 rfl)
      rintro v M' L' ⟨rfl, ho, rfl⟩
      refine ⟨?_, h.sc (OnlySc.tri ho) rfl, (OnlySc.tri ho).all, rfl⟩
      rw [show sp_first S (nI k) (nI t) = (frst (st_l S) k t 31 0 (st_c S), S) from by unfold sp_first; rw [if_pos ⟨b8, b15⟩, kx_nI (by omega), kx_nI (by omega)]]
    · rw [bI_eq0] at b15
      refine ro_iconst (v := -1) dX5_first_18 (by decide) ?_
      refine ro_iret rfl dX5_first_19 ?_
      rw [show sp_first S x y = (-1, S) from by unfold sp_first; rw [if_neg (fun z => by first | (rw [b8] at z; exact absurd z.1 (by decide)) | (rw [b15] at z; exact absurd z.2 (by decide)))]]
      exact ⟨rfl, h, OnlySc.rf.all, rfl⟩
def sp_hear (S : ST) (x y z : Int32) : Int32 × ST := if hB 10 x = true ∧ hB 10 y = true ∧ zo z = true then (if hd_n (st_h S) < 6 then (nI (hd_n (st_h S) + 1), setH S (hd_add (st_h S) (kx x) (kx y) (decide (z = 1)))) else (-4, S)) else (-2, S)
def sp_unhear (S : ST) : Int32 × ST := (nI (hd_n (st_h S)), setH S (0, (st_h S).2))
theorem ct_hear {g : GT} {M : MM} {L : LL} {S : ST} {b : Nat} {x y z : Int32} (h : RC M L S) (ok : StOK b S) : CTQ g mX5_hear 1 [.ref (dq_A g 0), .int x, .int y, .int z] M L (QC M L (sp_hear S x y z)) := by
  have hL := h.2.2.1
  have hS := h.2.2.2.1
  have hA := h.2.2.2.2.1
  have okl := ok.2.2.1
  have oc := ok.2.2.2.1
  have a1 := okl.1
  have hb := ok.2.2.2.2.2.2.2
  have h64 := ok.1
  have hH := h.2.2.2.2.2.2.1
  have okh := ok.2.2.2.2.2.2.1
  have h6 := okh.1
  refine ct_of ok_X5_hear (lv := [some (.ref (dq_A g 0)), some (.int x), some (.int y), some (.int z)]) rfl (Nat.le_of_ble_eq_true rfl) ?_
  refine ro_iload_n dX5_hear_0 rfl rfl ?_
  refine ro_callS1 ok_X5_isFigure (ct_isFigure x) gX5_hear_X5_isFigure (Nat.le_of_ble_eq_true rfl) (Nat.le_of_ble_eq_true rfl) dX5_hear_1 ?_
  refine ro_if_eq 21 dX5_hear_4 (by decide) (fun b4 => ?_) (fun b4 => ?_)
  · rw [bI_eq0] at b4
    refine ro_bipush (v := -2) dX5_hear_21 (by decide) ?_
    refine ro_iret rfl dX5_hear_23 ?_
    rw [show sp_hear S x y z = (-2, S) from if_neg (fun q => by first | (rw [b4] at q; exact absurd q.1 (by decide)) | (rw [b11] at q; exact absurd q.2.1 (by decide)) | (rw [b18] at q; exact absurd q.2.2 (by decide)))]
    exact ⟨rfl, h, OnlySc.rf.all, rfl⟩
  · rw [bI_ne0] at b4
    refine ro_iload_n dX5_hear_7 rfl rfl ?_
    refine ro_callS1 ok_X5_isFigure (ct_isFigure y) gX5_hear_X5_isFigure (Nat.le_of_ble_eq_true rfl) (Nat.le_of_ble_eq_true rfl) dX5_hear_8 ?_
    refine ro_if_eq 21 dX5_hear_11 (by decide) (fun b11 => ?_) (fun b11 => ?_)
    · rw [bI_eq0] at b11
      refine ro_bipush (v := -2) dX5_hear_21 (by decide) ?_
      refine ro_iret rfl dX5_hear_23 ?_
      rw [show sp_hear S x y z = (-2, S) from if_neg (fun q => by first | (rw [b4] at q; exact absurd q.1 (by decide)) | (rw [b11] at q; exact absurd q.2.1 (by decide)) | (rw [b18] at q; exact absurd q.2.2 (by decide)))]
      exact ⟨rfl, h, OnlySc.rf.all, rfl⟩
    · rw [bI_ne0] at b11
      refine ro_iload_n dX5_hear_14 rfl rfl ?_
      refine ro_callS1 ok_X5_isZeroOrOne (ct_zo z) gX5_hear_X5_isZeroOrOne (Nat.le_of_ble_eq_true rfl) (Nat.le_of_ble_eq_true rfl) dX5_hear_15 ?_
      refine ro_if_ne 24 dX5_hear_18 (by decide) (fun b18 => ?_) (fun b18 => ?_)
      · rw [bI_ne0] at b18
        obtain ⟨k, hk, rfl⟩ := hB_some (by omega) b4
        obtain ⟨j, hj, rfl⟩ := hB_some (by omega) b11
        refine ro_aload_n dX5_hear_24 rfl rfl ?_
        refine gf_X5_heardSayings  in_X5_hear_X5 lk_X5_hear_69 dX5_hear_25 ?_
        refine gf_X1_size  in_X5_hear_X1 lk_X5_hear_219 dX5_hear_28 ?_
        rw [hH.1]
        refine ro_bipush (v := 6) dX5_hear_31 (by decide) ?_
        refine ro_icmp_lt 39 dX5_hear_33 (by decide) (fun b33 => ?_) (fun b33 => ?_)
        · replace b33 : hd_n (st_h S) < 6 := (nI_ltI (b := 6) (by omega) (by decide)).mp b33
          refine ro_aload_n dX5_hear_39 rfl rfl ?_
          refine gf_X5_heardSayings  in_X5_hear_X5 lk_X5_hear_69 dX5_hear_40 ?_
          refine ro_iload_n dX5_hear_43 rfl rfl ?_
          refine ro_iload_n dX5_hear_44 rfl rfl ?_
          refine ro_iload_n dX5_hear_45 rfl rfl ?_
          refine ro_iconst (v := 1) dX5_hear_46 (by decide) ?_
          refine ro_icmp_ne 54 dX5_hear_47 (by decide) (fun b47 => ?_) (fun b47 => ?_)
          · refine ro_iconst (v := 0) dX5_hear_54 (by decide) ?_
            first
              | refine ro_top (show (1 : Int32) = bI (decide (z = 1)) from by rw [decide_eq_true b47]; rfl) ?_
              | refine ro_top (show (0 : Int32) = bI (decide (z = 1)) from by rw [decide_eq_false b47]; rfl) ?_
            refine ro_callV3Q ok_X1_add (ct_hdAdd (w := decide (z = 1)) hH b33) ce_X1 rfl rfl gX5_hear_X1_add (Nat.le_of_ble_eq_true rfl) (Nat.le_of_ble_eq_true rfl) dX5_hear_55 (fun v55 M55 L55 q55 => ?_)
            obtain ⟨rfl, hH55, ho55, rfl⟩ := q55
            refine ro_aload_n dX5_hear_58 rfl rfl ?_
            refine gf_X5_heardSayings  in_X5_hear_X5 lk_X5_hear_69 dX5_hear_59 ?_
            refine gf_X1_size  in_X5_hear_X1 lk_X5_hear_219 dX5_hear_62 ?_
            rw [hH55.1]
            refine ro_iret rfl dX5_hear_65 ?_
            rw [show sp_hear S (nI k) (nI j) z = _ from (if_pos ⟨b4, b11, b18⟩).trans (if_pos b33), kx_nI (by omega), kx_nI (by omega)]
            refine ⟨rfl, ⟨by rw [ho55 0 (by omega)]; exact h.1, by rw [ho55 1 (by omega)]; exact h.2.1, hL.keep (fun i a b => ho55 i (by omega)), hS.keep (fun i a b => ho55 i (by omega)), hA.keep (ho55 10 (by omega)) (fun i a b => ho55 i (by omega)), h.2.2.2.2.2.1.keep (ho55 3 (by omega)) (fun i a b => ho55 i (by omega)), hH55, h.2.2.2.2.2.2.2⟩, ho55.wide (by decide) (by decide), rfl⟩
          · refine ro_iconst (v := 1) dX5_hear_50 (by decide) ?_
            refine ro_goto 55 dX5_hear_51 (by decide) ?_
            first
              | refine ro_top (show (1 : Int32) = bI (decide (z = 1)) from by rw [decide_eq_true b47]; rfl) ?_
              | refine ro_top (show (0 : Int32) = bI (decide (z = 1)) from by rw [decide_eq_false b47]; rfl) ?_
            refine ro_callV3Q ok_X1_add (ct_hdAdd (w := decide (z = 1)) hH b33) ce_X1 rfl rfl gX5_hear_X1_add (Nat.le_of_ble_eq_true rfl) (Nat.le_of_ble_eq_true rfl) dX5_hear_55 (fun v55 M55 L55 q55 => ?_)
            obtain ⟨rfl, hH55, ho55, rfl⟩ := q55
            refine ro_aload_n dX5_hear_58 rfl rfl ?_
            refine gf_X5_heardSayings  in_X5_hear_X5 lk_X5_hear_69 dX5_hear_59 ?_
            refine gf_X1_size  in_X5_hear_X1 lk_X5_hear_219 dX5_hear_62 ?_
            rw [hH55.1]
            refine ro_iret rfl dX5_hear_65 ?_
            rw [show sp_hear S (nI k) (nI j) z = _ from (if_pos ⟨b4, b11, b18⟩).trans (if_pos b33), kx_nI (by omega), kx_nI (by omega)]
            refine ⟨rfl, ⟨by rw [ho55 0 (by omega)]; exact h.1, by rw [ho55 1 (by omega)]; exact h.2.1, hL.keep (fun i a b => ho55 i (by omega)), hS.keep (fun i a b => ho55 i (by omega)), hA.keep (ho55 10 (by omega)) (fun i a b => ho55 i (by omega)), h.2.2.2.2.2.1.keep (ho55 3 (by omega)) (fun i a b => ho55 i (by omega)), hH55, h.2.2.2.2.2.2.2⟩, ho55.wide (by decide) (by decide), rfl⟩
        · replace b33 : ¬ hd_n (st_h S) < 6 := fun z => b33 ((nI_ltI (b := 6) (by omega) (by decide)).mpr z)
          refine ro_bipush (v := -4) dX5_hear_36 (by decide) ?_
          refine ro_iret rfl dX5_hear_38 ?_
          rw [show sp_hear S (nI k) (nI j) z = (-4, S) from (if_pos ⟨b4, b11, b18⟩).trans (if_neg b33)]
          exact ⟨rfl, h, OnlySc.rf.all, rfl⟩
      · rw [bI_eq0] at b18
        refine ro_bipush (v := -2) dX5_hear_21 (by decide) ?_
        refine ro_iret rfl dX5_hear_23 ?_
        rw [show sp_hear S x y z = (-2, S) from if_neg (fun q => by first | (rw [b4] at q; exact absurd q.1 (by decide)) | (rw [b11] at q; exact absurd q.2.1 (by decide)) | (rw [b18] at q; exact absurd q.2.2 (by decide)))]
        exact ⟨rfl, h, OnlySc.rf.all, rfl⟩
theorem ct_unhear {g : GT} {M : MM} {L : LL} {S : ST} {b : Nat} (h : RC M L S) (ok : StOK b S) : CTQ g mX5_unhear 0 [.ref (dq_A g 0)] M L (QC M L (sp_unhear S)) := by
  have hL := h.2.2.1
  have hS := h.2.2.2.1
  have hA := h.2.2.2.2.1
  have okl := ok.2.2.1
  have oc := ok.2.2.2.1
  have a1 := okl.1
  have hb := ok.2.2.2.2.2.2.2
  have h64 := ok.1
  have hH := h.2.2.2.2.2.2.1
  have okh := ok.2.2.2.2.2.2.1
  have h6 := okh.1
  refine ct_of ok_X5_unhear (lv := [some (.ref (dq_A g 0)), none]) rfl (Nat.le_of_ble_eq_true rfl) ?_
  refine ro_aload_n dX5_unhear_0 rfl rfl ?_
  refine gf_X5_heardSayings  in_X5_unhear_X5 lk_X5_unhear_69 dX5_unhear_1 ?_
  refine gf_X1_size  in_X5_unhear_X1 lk_X5_unhear_219 dX5_unhear_4 ?_
  rw [hH.1]
  refine ro_istore_n1 dX5_unhear_7 (Nat.le_of_ble_eq_true rfl) rfl ?_
  refine ro_aload_n dX5_unhear_8 rfl rfl ?_
  refine gf_X5_heardSayings  in_X5_unhear_X5 lk_X5_unhear_69 dX5_unhear_9 ?_
  refine ro_iconst (v := 0) dX5_unhear_12 (by decide) ?_
  refine pf_X1_size  in_X5_unhear_X1 lk_X5_unhear_219  dX5_unhear_13 (fun M13 e13 => ?_)
  refine ro_iload_n dX5_unhear_16 rfl rfl ?_
  refine ro_iret rfl dX5_unhear_17 ?_
  have ho : OnlyB 12 12 M M13 := OnlyB.up e13 (by decide) (by decide)
  have hH13 : HeardR M13 (0, (st_h S).2) := ⟨by rw [e13, va_up_self, pk_us]; rfl, fun j hj => absurd hj (Nat.not_lt_zero j), fun j hj => absurd hj (Nat.not_lt_zero j), fun j hj => absurd hj (Nat.not_lt_zero j)⟩
  exact ⟨rfl, ⟨by rw [ho 0 (by omega)]; exact h.1, by rw [ho 1 (by omega)]; exact h.2.1, hL.keep (fun i a b => ho i (by omega)), hS.keep (fun i a b => ho i (by omega)), hA.keep (ho 10 (by omega)) (fun i a b => ho i (by omega)), h.2.2.2.2.2.1.keep (ho 3 (by omega)) (fun i a b => ho i (by omega)), hH13, h.2.2.2.2.2.2.2⟩, ho.wide (by decide) (by decide), rfl⟩
def earF (h : HD) : Nat → Nat × Int32
  | 0 => (0, -9)
  | k + 1 => if fitB h (k / 10) (k % 10) (hd_n h) = true then ((earF h k).1 + 1, if (earF h k).1 = 0 then nI k else (earF h k).2) else earF h k
theorem earF_le (h : HD) : ∀ k, (earF h k).1 ≤ k
  | 0 => Nat.le_refl _
  | k + 1 => by
    have := earF_le h k
    rw [earF]
    split
    · exact Nat.succ_le_succ this
    · omega
def sp_ears (S : ST) (w : Int32) : Int32 × ST := (if zo w = true then (if w = 0 then nI (earF (st_h S) 30).1 else (earF (st_h S) 30).2) else -2, S)
theorem lp_ears1 {g : GT} {M : MM} {L : LL} {h : HD} {w : Int32} {a : Nat} (hR : HeardR M h) (ok : HdOK h) (ha : a < 3) (K : ∀ x5 : Option Value, JW g mX5_ears 1 (Rt (some (.int (if w = 0 then nI (earF h 30).1 else (earF h 30).2))) M L) M L 18 [some (.ref (dq_A g 0)), some (.int w), some (.int (nI (earF h (10 * (a + 1))).1)), some (.int (earF h (10 * (a + 1))).2), some (.int (nI (a + 1))), x5] []) : ∀ (n j : Nat), j + n = 10 → JW g mX5_ears 1 (Rt (some (.int (if w = 0 then nI (earF h 30).1 else (earF h 30).2))) M L) M L 27 [some (.ref (dq_A g 0)), some (.int w), some (.int (nI (earF h (10 * a + j)).1)), some (.int (earF h (10 * a + j)).2), some (.int (nI a)), some (.int (nI j))] [] := by
  intro n
  induction n with
  | zero =>
    intro j hj
    refine ro_iload dX5_ears_27 rfl ?_
    refine ro_bipush (v := 10) dX5_ears_29 (by decide) ?_
    refine ro_icmp_ge 74 dX5_ears_31 (by decide) (fun b31 => ?_) (fun b31 => ?_)
    · refine ro_iincP4 dX5_ears_74 (Nat.le_of_ble_eq_true rfl) rfl ?_
      refine ro_goto 18 dX5_ears_77 (by decide) ?_
      rw [nI_1]
      have e : j = 10 := by omega
      subst e
      rw [show 10 * a + 10 = 10 * (a + 1) by omega]
      exact K _
    · exact absurd (nI_le (a := 10) (by omega) (by omega)) b31
  | succ n ih =>
    intro j hj
    refine ro_iload dX5_ears_27 rfl ?_
    refine ro_bipush (v := 10) dX5_ears_29 (by decide) ?_
    refine ro_icmp_ge 74 dX5_ears_31 (by decide) (fun b31 => ?_) (fun b31 => ?_)
    · exact absurd b31 (nI_ge (b := 10) (by omega) (by decide))
    · refine ro_aload_n dX5_ears_34 rfl rfl ?_
      refine gf_X5_heardSayings  in_X5_ears_X5 lk_X5_ears_69 dX5_ears_35 ?_
      refine ro_iload dX5_ears_38 rfl ?_
      refine ro_iload dX5_ears_40 rfl ?_
      refine ro_callV2 ok_X1_fits (ct_fits hR ok (by omega) (by omega)) ce_X1 rfl rfl gX5_ears_X1_fits (Nat.le_of_ble_eq_true rfl) (Nat.le_of_ble_eq_true rfl) dX5_ears_42 ?_
      refine ro_if_eq 68 dX5_ears_45 (by decide) (fun b45 => ?_) (fun b45 => ?_)
      · rw [bI_eq0] at b45
        refine ro_iincP5 dX5_ears_68 (Nat.le_of_ble_eq_true rfl) rfl ?_
        refine ro_goto 27 dX5_ears_71 (by decide) ?_
        rw [nI_1]
        have hq : (10 * a + j) / 10 = a ∧ (10 * a + j) % 10 = j := by omega
        have hu : earF h (10 * a + (j + 1)) = if fitB h a j (hd_n h) = true then ((earF h (10 * a + j)).1 + 1, if (earF h (10 * a + j)).1 = 0 then nI (10 * a + j) else (earF h (10 * a + j)).2) else earF h (10 * a + j) := by
          rw [← Nat.add_assoc, earF, hq.1, hq.2]
        first
          | (rw [if_neg (by rw [b45]; decide)] at hu
             rw [← hu]
             exact ih (j + 1) (by omega))
          | (rw [if_pos b45, if_pos b49] at hu
             have z := ih (j + 1) (by omega)
             rw [hu] at z
             rw [nI_1, show (10 : Int32) * nI a + nI j = nI (10 * a + j) from by rw [show (10 : Int32) = nI 10 from rfl, pk_mul, nI_add]]
             exact z)
          | (rw [if_pos b45, if_neg b49] at hu
             have z := ih (j + 1) (by omega)
             rw [hu] at z
             rw [nI_1]
             exact z)
      · rw [bI_ne0] at b45
        refine ro_iload_n dX5_ears_48 rfl rfl ?_
        refine ro_if_ne 63 dX5_ears_49 (by decide) (fun b49 => ?_) (fun b49 => ?_)
        · replace b49 : ¬ (earF h (10 * a + j)).1 = 0 := fun z => b49 (by rw [z]; rfl)
          refine ro_iload_n dX5_ears_63 rfl rfl ?_
          refine ro_istore_n3 dX5_ears_64 (Nat.le_of_ble_eq_true rfl) rfl ?_
          refine ro_iincP2 dX5_ears_65 (Nat.le_of_ble_eq_true rfl) rfl ?_
          refine ro_iincP5 dX5_ears_68 (Nat.le_of_ble_eq_true rfl) rfl ?_
          refine ro_goto 27 dX5_ears_71 (by decide) ?_
          rw [nI_1]
          have hq : (10 * a + j) / 10 = a ∧ (10 * a + j) % 10 = j := by omega
          have hu : earF h (10 * a + (j + 1)) = if fitB h a j (hd_n h) = true then ((earF h (10 * a + j)).1 + 1, if (earF h (10 * a + j)).1 = 0 then nI (10 * a + j) else (earF h (10 * a + j)).2) else earF h (10 * a + j) := by
            rw [← Nat.add_assoc, earF, hq.1, hq.2]
          first
            | (rw [if_neg (by rw [b45]; decide)] at hu
               rw [← hu]
               exact ih (j + 1) (by omega))
            | (rw [if_pos b45, if_pos b49] at hu
               have z := ih (j + 1) (by omega)
               rw [hu] at z
               rw [nI_1, show (10 : Int32) * nI a + nI j = nI (10 * a + j) from by rw [show (10 : Int32) = nI 10 from rfl, pk_mul, nI_add]]
               exact z)
            | (rw [if_pos b45, if_neg b49] at hu
               have z := ih (j + 1) (by omega)
               rw [hu] at z
               rw [nI_1]
               exact z)
        · replace b49 : (earF h (10 * a + j)).1 = 0 := (nI_eq (b := 0) (by have := earF_le h (10 * a + j); omega) (by decide)).mp b49
          refine ro_bipush (v := 10) dX5_ears_52 (by decide) ?_
          refine ro_iload dX5_ears_54 rfl ?_
          refine ro_imul dX5_ears_56 ?_
          refine ro_iload dX5_ears_57 rfl ?_
          refine ro_iadd dX5_ears_59 ?_
          refine ro_goto 64 dX5_ears_60 (by decide) ?_
          refine ro_istore_n3 dX5_ears_64 (Nat.le_of_ble_eq_true rfl) rfl ?_
          refine ro_iincP2 dX5_ears_65 (Nat.le_of_ble_eq_true rfl) rfl ?_
          refine ro_iincP5 dX5_ears_68 (Nat.le_of_ble_eq_true rfl) rfl ?_
          refine ro_goto 27 dX5_ears_71 (by decide) ?_
          rw [nI_1]
          have hq : (10 * a + j) / 10 = a ∧ (10 * a + j) % 10 = j := by omega
          have hu : earF h (10 * a + (j + 1)) = if fitB h a j (hd_n h) = true then ((earF h (10 * a + j)).1 + 1, if (earF h (10 * a + j)).1 = 0 then nI (10 * a + j) else (earF h (10 * a + j)).2) else earF h (10 * a + j) := by
            rw [← Nat.add_assoc, earF, hq.1, hq.2]
          first
            | (rw [if_neg (by rw [b45]; decide)] at hu
               rw [← hu]
               exact ih (j + 1) (by omega))
            | (rw [if_pos b45, if_pos b49] at hu
               have z := ih (j + 1) (by omega)
               rw [hu] at z
               rw [nI_1, show (10 : Int32) * nI a + nI j = nI (10 * a + j) from by rw [show (10 : Int32) = nI 10 from rfl, pk_mul, nI_add]]
               exact z)
            | (rw [if_pos b45, if_neg b49] at hu
               have z := ih (j + 1) (by omega)
               rw [hu] at z
               rw [nI_1]
               exact z)
theorem lp_ears {g : GT} {M : MM} {L : LL} {h : HD} {w : Int32} (hR : HeardR M h) (ok : HdOK h) : ∀ (n a : Nat), a + n = 3 → ∀ x5 : Option Value, JW g mX5_ears 1 (Rt (some (.int (if w = 0 then nI (earF h 30).1 else (earF h 30).2))) M L) M L 18 [some (.ref (dq_A g 0)), some (.int w), some (.int (nI (earF h (10 * a)).1)), some (.int (earF h (10 * a)).2), some (.int (nI a)), x5] [] := by
  intro n
  induction n with
  | zero =>
    intro a ha x5
    have e : a = 3 := by omega
    subst e
    refine ro_iload dX5_ears_18 rfl ?_
    refine ro_iconst (v := 3) dX5_ears_20 (by decide) ?_
    refine ro_icmp_ge 80 dX5_ears_21 (by decide) (fun b21 => ?_) (fun b21 => ?_)
    · refine ro_iload_n dX5_ears_80 rfl rfl ?_
      refine ro_if_ne 88 dX5_ears_81 (by decide) (fun b81 => ?_) (fun b81 => ?_)
      · refine ro_iload_n dX5_ears_88 rfl rfl ?_
        refine ro_iret rfl dX5_ears_89 ?_
        exact ⟨by first | rw [if_pos b81] | rw [if_neg b81], rfl, rfl⟩
      · refine ro_iload_n dX5_ears_84 rfl rfl ?_
        refine ro_goto 89 dX5_ears_85 (by decide) ?_
        refine ro_iret rfl dX5_ears_89 ?_
        exact ⟨by first | rw [if_pos b81] | rw [if_neg b81], rfl, rfl⟩
    · exact absurd (nI_le (a := 3) (by omega) (by omega)) b21
  | succ n ih =>
    intro a ha x5
    refine ro_iload dX5_ears_18 rfl ?_
    refine ro_iconst (v := 3) dX5_ears_20 (by decide) ?_
    refine ro_icmp_ge 80 dX5_ears_21 (by decide) (fun b21 => ?_) (fun b21 => ?_)
    · exact absurd b21 (nI_ge (b := 3) (by omega) (by decide))
    · refine ro_iconst (v := 0) dX5_ears_24 (by decide) ?_
      refine ro_istore5 dX5_ears_25 (Nat.le_of_ble_eq_true rfl) rfl ?_
      exact lp_ears1 hR ok (by omega) (fun x => ih (a + 1) (by omega) x) 10 0 rfl
theorem ct_ears {g : GT} {M : MM} {L : LL} {S : ST} {b : Nat} {w : Int32} (h : RC M L S) (ok : StOK b S) : CTQ g mX5_ears 1 [.ref (dq_A g 0), .int w] M L (QC M L (sp_ears S w)) := by
  have hL := h.2.2.1
  have hS := h.2.2.2.1
  have hA := h.2.2.2.2.1
  have okl := ok.2.2.1
  have oc := ok.2.2.2.1
  have a1 := okl.1
  have hb := ok.2.2.2.2.2.2.2
  have h64 := ok.1
  have hH := h.2.2.2.2.2.2.1
  have okh := ok.2.2.2.2.2.2.1
  have h6 := okh.1
  refine ct_of ok_X5_ears (lv := [some (.ref (dq_A g 0)), some (.int w), none, none, none, none]) rfl (Nat.le_of_ble_eq_true rfl) ?_
  refine ro_iload_n dX5_ears_0 rfl rfl ?_
  refine ro_callS1 ok_X5_isZeroOrOne (ct_zo w) gX5_ears_X5_isZeroOrOne (Nat.le_of_ble_eq_true rfl) (Nat.le_of_ble_eq_true rfl) dX5_ears_1 ?_
  refine ro_if_ne 10 dX5_ears_4 (by decide) (fun b4 => ?_) (fun b4 => ?_)
  · rw [bI_ne0] at b4
    refine ro_iconst (v := 0) dX5_ears_10 (by decide) ?_
    refine ro_istore_n2 dX5_ears_11 (Nat.le_of_ble_eq_true rfl) rfl ?_
    refine ro_bipush (v := -9) dX5_ears_12 (by decide) ?_
    refine ro_istore_n3 dX5_ears_14 (Nat.le_of_ble_eq_true rfl) rfl ?_
    refine ro_iconst (v := 0) dX5_ears_15 (by decide) ?_
    refine ro_istore4 dX5_ears_16 (Nat.le_of_ble_eq_true rfl) rfl ?_
    refine JW.mono ?_ (lp_ears hH okh 3 0 rfl none)
    rintro v M' L' ⟨rfl, rfl, rfl⟩
    rw [show sp_ears S w = (if w = 0 then nI (earF (st_h S) 30).1 else (earF (st_h S) 30).2, S) from by unfold sp_ears; rw [if_pos b4]]
    exact ⟨rfl, h, OnlySc.rf.all, rfl⟩
  · rw [bI_eq0] at b4
    refine ro_bipush (v := -2) dX5_ears_7 (by decide) ?_
    refine ro_iret rfl dX5_ears_9 ?_
    rw [show sp_ears S w = (-2, S) from by unfold sp_ears; rw [if_neg (by rw [b4]; decide)]]
    exact ⟨rfl, h, OnlySc.rf.all, rfl⟩
