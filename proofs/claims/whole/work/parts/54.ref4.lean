/-- a row of the reference that only its own object and array i of those behind it may differ -/
theorem RR.upd {M M' : MM} {L : LL} {S : ST} {i : Nat} (h : RR M L S) (hi : i = 111 ∨ i = 113 ∨ i = 114 ∨ i = 115) (ho : ∀ q, q ≠ 102 → q ≠ i → M' q = M q) (hf : ∀ k, k ≠ 15 → k ≠ 21 → M' 102 k = M 102 k) : RLn M' (st_l S) ∧ ScR (M' 107) 0 (ln_n (st_l S)) (st_c S) ∧ RActs M' (ln_n (st_l S)) (st_a S) ∧ RKept M' (ln_n (st_l S)) (st_k S) := by
  obtain ⟨h1, h2, h3, h4, h5, h6, h7, h8⟩ := h
  exact ⟨h1.keep (fun k z => hf k (by omega) (by omega)) (fun q a b => ho q (by omega) (by omega)), by rw [ho 107 (by omega) (by omega)]; exact h2, h5.keep (hf 18 (by omega) (by omega)) (hf 19 (by omega) (by omega)) (ho 112 (by omega) (by omega)), h6.keep (ho 116 (by omega) (by omega)) (ho 117 (by omega) (by omega))⟩
theorem cr_write {g : GT} {M : MM} {L : LL} {S : ST} {b : Nat} {x : Int32} (h : RR M L S) (ok : StOK b S) : CTQ g mX6_write 1 [.ref (dq_A g 102), .int x] M L (QR M L (sp_write S x)) := by
  have hL := h.1
  have hS : ScR (M 107) (17 * 0) (ln_n (st_l S)) (st_c S) := h.2.1
  have hA := h.2.2.2.2.1
  have okl := ok.2.2.1
  have oc := ok.2.2.2.1
  have a1 := okl.1
  have hb := ok.2.2.2.2.2.2.2
  have h64 := ok.1
  refine ct_of ok_X6_write (lv := [some (.ref (dq_A g 102)), some (.int x)]) rfl (Nat.le_of_ble_eq_true rfl) ?_
  refine ro_iload_n dX6_write_0 rfl rfl ?_
  refine ro_i2l dX6_write_1 ?_
  refine ro_lconst (v := 0) dX6_write_2 (by decide) ?_
  refine ro_ldc2 dX6_write_3 lk_X6_write_56 ?_
  refine ro_callS3 ok_X6_in (cr_in _ _ _) gX6_write_X6_in (Nat.le_of_ble_eq_true rfl) (Nat.le_of_ble_eq_true rfl) dX6_write_6 ?_
  rw [in_hB (n := 256) rfl (by decide)]
  refine ro_if_ne 15 dX6_write_9 (by decide) (fun b9 => ?_) (fun b9 => ?_)
  · rw [bI_ne0] at b9
    obtain ⟨k, hk, rfl⟩ := hB_some (by omega) b9
    have hnn : ¬ (nI k < 0 ∨ 255 < nI k) := fun z => z.elim (nI_pos (by omega)) (nI_nlt (a := 255) (by omega) (by decide))
    refine ro_aload_n dX6_write_15 rfl rfl ?_
    refine gf_X6_length  in_X6_write_X6 lk_X6_write_62 dX6_write_16 ?_
    rw [h.2.2.1]
    refine ro_bipush (v := 64) dX6_write_19 (by decide) ?_
    refine ro_icmp_ne 27 dX6_write_21 (by decide) (fun b21 => ?_) (fun b21 => ?_)
    · replace b21 : ¬ st_n S = 64 := fun z => b21 (by rw [z]; rfl)
      refine ro_aload_n dX6_write_27 rfl rfl ?_
      refine gf_X6_text  in_X6_write_X6 lk_X6_write_34 dX6_write_28 ?_
      refine ro_aload_n dX6_write_31 rfl rfl ?_
      refine gf_X6_length  in_X6_write_X6 lk_X6_write_62 dX6_write_32 ?_
      rw [h.2.2.1]
      refine ro_iload_n dX6_write_35 rfl rfl ?_
      refine ro_as ar_111 rfl (by omega) dX6_write_36 (fun M36 e36 => ?_)
      refine ro_aload_n dX6_write_37 rfl rfl ?_
      refine ro_dup dX6_write_38 rfl ?_
      refine gf_X6_length  in_X6_write_X6 lk_X6_write_62 dX6_write_39 ?_
      rw [show M36 102 15 = nI (st_n S) by rw [e36, va_up_ne _ _ (by decide)]; exact h.2.2.1]
      refine ro_iconst (v := 1) dX6_write_42 (by decide) ?_
      refine ro_iadd dX6_write_43 ?_
      rw [nI_1]
      refine pf_X6_length  in_X6_write_X6 lk_X6_write_62  dX6_write_44 (fun M44 e44 => ?_)
      refine ro_aload_n dX6_write_47 rfl rfl ?_
      refine gf_X6_length  in_X6_write_X6 lk_X6_write_62 dX6_write_48 ?_
      refine ro_top (show M44 102 15 = nI (st_n S + 1) from by rw [e44, va_up_self, pk_us]) ?_
      refine ro_iret rfl dX6_write_51 ?_
      rw [show sp_write S (nI k) = _ from (if_neg hnn).trans (if_neg (by omega)), kx_nI (by omega)]
      have ho : ∀ q, q ≠ 102 → q ≠ 111 → M44 q = M q := fun q a b => by rw [e44, va_up_ne _ _ a, e36, va_up_ne _ _ b]
      have r2 : M44 102 = upd (M 102) 15 (nI (st_n S + 1)) := by rw [e44, va_up_self, e36, va_up_ne _ _ (by decide)]
      have hf : ∀ k, k ≠ 15 → k ≠ 21 → M44 102 k = M 102 k := fun k a b => by rw [r2, pk_un a]
      obtain ⟨u1, u2, u3, u4⟩ := h.upd (Or.inl rfl) ho hf
      refine ⟨rfl, ⟨u1, u2, by rw [r2, pk_us]; rfl, ?_, u3, u4, h.2.2.2.2.2.2.1.keep (by rw [r2, pk_un (by decide)]) (fun i a b => ho i (by omega) (by omega)), h.2.2.2.2.2.2.2⟩, fun q hq => ho q (by omega) (by omega), rfl⟩
      have r1 : M44 111 = upd (M 111) (st_n S) (nI k) := by rw [e44, va_up_ne _ _ (by decide), e36, va_up_self]
      rw [r1]; exact row_add h.2.2.2.1
    · replace b21 : st_n S = 64 := (nI_eq (b := 64) (by omega) (by decide)).mp b21
      refine ro_bipush (v := -4) dX6_write_24 (by decide) ?_
      refine ro_iret rfl dX6_write_26 ?_
      rw [show sp_write S (nI k) = (-4, S) from (if_neg hnn).trans (if_pos (by omega))]
      exact ⟨rfl, h, RScr.rf.all, rfl⟩
  · rw [bI_eq0] at b9
    refine ro_bipush (v := -2) dX6_write_12 (by decide) ?_
    refine ro_iret rfl dX6_write_14 ?_
    rw [show sp_write S x = (-2, S) from if_pos (Classical.byContradiction fun z => ?_)]
    · exact ⟨rfl, h, RScr.rf.all, rfl⟩
    · have z1 : hB 256 x = true := by
        unfold hB
        rw [decide_eq_true]
        exact ⟨fun y => z (Or.inl y), fun y => z (Or.inr (Int32.lt_of_lt_of_le (by decide) y))⟩
      rw [b9] at z1
      cases z1
theorem cr_wipe {g : GT} {M : MM} {L : LL} {S : ST} {b : Nat} (h : RR M L S) (ok : StOK b S) : CTQ g mX6_wipe 0 [.ref (dq_A g 102)] M L (QR M L (sp_wipe S)) := by
  have hL := h.1
  have hS : ScR (M 107) (17 * 0) (ln_n (st_l S)) (st_c S) := h.2.1
  have hA := h.2.2.2.2.1
  have okl := ok.2.2.1
  have oc := ok.2.2.2.1
  have a1 := okl.1
  have hb := ok.2.2.2.2.2.2.2
  have h64 := ok.1
  refine ct_of ok_X6_wipe (lv := [some (.ref (dq_A g 102)), none]) rfl (Nat.le_of_ble_eq_true rfl) ?_
  refine ro_aload_n dX6_wipe_0 rfl rfl ?_
  refine gf_X6_length  in_X6_wipe_X6 lk_X6_wipe_62 dX6_wipe_1 ?_
  rw [h.2.2.1]
  refine ro_istore_n1 dX6_wipe_4 (Nat.le_of_ble_eq_true rfl) rfl ?_
  refine ro_aload_n dX6_wipe_5 rfl rfl ?_
  refine ro_iconst (v := 0) dX6_wipe_6 (by decide) ?_
  refine pf_X6_length  in_X6_wipe_X6 lk_X6_wipe_62  dX6_wipe_7 (fun M7 e7 => ?_)
  refine ro_iload_n dX6_wipe_10 rfl rfl ?_
  refine ro_iret rfl dX6_wipe_11 ?_
  have ho : ∀ q, q ≠ 102 → q ≠ 111 → M7 q = M q := fun q a b => by rw [e7, va_up_ne _ _ a]
  have r2 : M7 102 = upd (M 102) 15 0 := by rw [e7, va_up_self]
  obtain ⟨u1, u2, u3, u4⟩ := h.upd (Or.inl rfl) ho (fun k a b => by rw [r2, pk_un a])
  exact ⟨rfl, ⟨u1, u2, by rw [r2, pk_us]; rfl, fun j hj => absurd hj (Nat.not_lt_zero j), u3, u4, h.2.2.2.2.2.2.1.keep (by rw [r2, pk_un (by decide)]) (fun i a b => ho i (by omega) (by omega)), h.2.2.2.2.2.2.2⟩, fun q hq => ho q (by omega) (by omega), rfl⟩
theorem cr_house {g : GT} {M : MM} {L : LL} {S : ST} {b : Nat} {x w : Int32} (h : RR M L S) (ok : StOK b S) : CTQ g mX6_house 2 [.ref (dq_A g 102), .int x, .int w] M L (QR M L (sp_house S x w)) := by
  have hL := h.1
  have hS : ScR (M 107) (17 * 0) (ln_n (st_l S)) (st_c S) := h.2.1
  have hA := h.2.2.2.2.1
  have okl := ok.2.2.1
  have oc := ok.2.2.2.1
  have a1 := okl.1
  have hb := ok.2.2.2.2.2.2.2
  have h64 := ok.1
  refine ct_of ok_X6_house (lv := [some (.ref (dq_A g 102)), some (.int x), some (.int w)]) rfl (Nat.le_of_ble_eq_true rfl) ?_
  refine ro_aload_n dX6_house_0 rfl rfl ?_
  refine ro_iload_n dX6_house_1 rfl rfl ?_
  refine ro_callV1 ok_X6_isHouse (cr_isHouse hL okl x) ce_X6 rfl rfl gX6_house_X6_isHouse (Nat.le_of_ble_eq_true rfl) (Nat.le_of_ble_eq_true rfl) dX6_house_2 ?_
  refine ro_if_ne 10 dX6_house_5 (by decide) (fun b5 => ?_) (fun b5 => ?_)
  · rw [bI_ne0] at b5
    obtain ⟨k, hk, rfl⟩ := hB_some (by omega) b5
    refine ro_iload_n dX6_house_10 rfl rfl ?_
    rcases sw5 w with hsw | rfl | rfl | rfl | rfl | rfl | rfl
    · refine ro_tableOut 116 dX6_house_11 hsw (by decide) ?_
      refine ro_bipush (v := -2) dX6_house_116 (by decide) ?_
      refine ro_iret rfl dX6_house_118 ?_
      refine ⟨?_, h, RScr.rf.all, rfl⟩
      show some (Value.int _) = some (Value.int (sp_house S _ _).1)
      unfold sp_house
      dsimp only
      first
        | (rw [if_neg (by rw [b5]; decide)]; done)
        | (rw [if_pos b5, kx_nI (by omega)]; rfl)
        | (rw [if_pos b5, kx_nI (by omega), if_neg (by decide), if_neg (by decide), if_neg (by decide), if_neg (by decide), if_neg (by decide), if_pos rfl, b107]; rfl)
        | (rw [if_pos b5, if_neg (sw5n hsw).1, if_neg (sw5n hsw).2.1, if_neg (sw5n hsw).2.2.1, if_neg (sw5n hsw).2.2.2.1, if_neg (sw5n hsw).2.2.2.2.1, if_neg (sw5n hsw).2.2.2.2.2]; done)
    · refine ro_tableIn 48 dX6_house_11 (by decide) (by decide) rfl (by decide) ?_
      refine ro_aload_n dX6_house_48 rfl rfl ?_
      refine gf_X6_wall  in_X6_house_X6 lk_X6_house_13 dX6_house_49 ?_
      refine ro_iload_n dX6_house_52 rfl rfl ?_
      refine ro_ai ar_104 rfl (by omega) dX6_house_53 ?_
      rw [(hL.2.2.2.1 k hk).2]
      refine ro_iret rfl dX6_house_54 ?_
      refine ⟨?_, h, RScr.rf.all, rfl⟩
      show some (Value.int _) = some (Value.int (sp_house S _ _).1)
      unfold sp_house
      dsimp only
      first
        | (rw [if_neg (by rw [b5]; decide)]; done)
        | (rw [if_pos b5, kx_nI (by omega)]; rfl)
        | (rw [if_pos b5, kx_nI (by omega), if_neg (by decide), if_neg (by decide), if_neg (by decide), if_neg (by decide), if_neg (by decide), if_pos rfl, b107]; rfl)
        | (rw [if_pos b5, if_neg (sw5n hsw).1, if_neg (sw5n hsw).2.1, if_neg (sw5n hsw).2.2.1, if_neg (sw5n hsw).2.2.2.1, if_neg (sw5n hsw).2.2.2.2.1, if_neg (sw5n hsw).2.2.2.2.2]; done)
    · refine ro_tableIn 55 dX6_house_11 (by decide) (by decide) rfl (by decide) ?_
      refine ro_aload_n dX6_house_55 rfl rfl ?_
      refine gf_X6_now  in_X6_house_X6 lk_X6_house_22 dX6_house_56 ?_
      refine ro_bipush (v := 10) dX6_house_59 (by decide) ?_
      refine ro_iload_n dX6_house_61 rfl rfl ?_
      refine ro_iadd dX6_house_62 ?_
      refine ro_top (show _ = nI (10 + k) from nI_add (10) (k)) ?_
      refine ro_ai ar_107 rfl (by omega) dX6_house_63 ?_
      rw [show M 107 (10 + k) = oI (sc_vo (st_c S) k) from by have z := h.2.1.2.2.1 k (by omega); rwa [Nat.zero_add] at z]
      refine ro_iret rfl dX6_house_64 ?_
      refine ⟨?_, h, RScr.rf.all, rfl⟩
      show some (Value.int _) = some (Value.int (sp_house S _ _).1)
      unfold sp_house
      dsimp only
      first
        | (rw [if_neg (by rw [b5]; decide)]; done)
        | (rw [if_pos b5, kx_nI (by omega)]; rfl)
        | (rw [if_pos b5, kx_nI (by omega), if_neg (by decide), if_neg (by decide), if_neg (by decide), if_neg (by decide), if_neg (by decide), if_pos rfl, b107]; rfl)
        | (rw [if_pos b5, if_neg (sw5n hsw).1, if_neg (sw5n hsw).2.1, if_neg (sw5n hsw).2.2.1, if_neg (sw5n hsw).2.2.2.1, if_neg (sw5n hsw).2.2.2.2.1, if_neg (sw5n hsw).2.2.2.2.2]; done)
    · refine ro_tableIn 65 dX6_house_11 (by decide) (by decide) rfl (by decide) ?_
      refine ro_aload_n dX6_house_65 rfl rfl ?_
      refine gf_X6_kind  in_X6_house_X6 lk_X6_house_7 dX6_house_66 ?_
      refine ro_aload_n dX6_house_69 rfl rfl ?_
      refine gf_X6_now  in_X6_house_X6 lk_X6_house_22 dX6_house_70 ?_
      refine ro_iload_n dX6_house_73 rfl rfl ?_
      refine ro_ai ar_107 rfl (by omega) dX6_house_74 ?_
      rw [show M 107 k = nI (sc_who (st_c S) k) from by have z := h.2.1.1 k (by omega); rwa [Nat.zero_add] at z]
      have hwk := oc.1 k hk
      refine ro_ai ar_103 rfl (by omega) dX6_house_75 ?_
      rw [(hL.2.2.2.1 _ hwk).1]
      refine ro_iret rfl dX6_house_76 ?_
      refine ⟨?_, h, RScr.rf.all, rfl⟩
      show some (Value.int _) = some (Value.int (sp_house S _ _).1)
      unfold sp_house
      dsimp only
      first
        | (rw [if_neg (by rw [b5]; decide)]; done)
        | (rw [if_pos b5, kx_nI (by omega)]; rfl)
        | (rw [if_pos b5, kx_nI (by omega), if_neg (by decide), if_neg (by decide), if_neg (by decide), if_neg (by decide), if_neg (by decide), if_pos rfl, b107]; rfl)
        | (rw [if_pos b5, if_neg (sw5n hsw).1, if_neg (sw5n hsw).2.1, if_neg (sw5n hsw).2.2.1, if_neg (sw5n hsw).2.2.2.1, if_neg (sw5n hsw).2.2.2.2.1, if_neg (sw5n hsw).2.2.2.2.2]; done)
    · refine ro_tableIn 77 dX6_house_11 (by decide) (by decide) rfl (by decide) ?_
      refine ro_aload_n dX6_house_77 rfl rfl ?_
      refine ro_iconst (v := 0) dX6_house_78 (by decide) ?_
      refine ro_iload_n dX6_house_79 rfl rfl ?_
      refine ro_callV2 ok_X6_knowsAt (cr_knowsAt (lv := 0) (by decide) hS oc.1 a1 hk) ce_X6 rfl rfl gX6_house_X6_knowsAt (Nat.le_of_ble_eq_true rfl) (Nat.le_of_ble_eq_true rfl) dX6_house_80 ?_
      refine ro_iret rfl dX6_house_83 ?_
      refine ⟨?_, h, RScr.rf.all, rfl⟩
      show some (Value.int _) = some (Value.int (sp_house S _ _).1)
      unfold sp_house
      dsimp only
      first
        | (rw [if_neg (by rw [b5]; decide)]; done)
        | (rw [if_pos b5, kx_nI (by omega)]; rfl)
        | (rw [if_pos b5, kx_nI (by omega), if_neg (by decide), if_neg (by decide), if_neg (by decide), if_neg (by decide), if_neg (by decide), if_pos rfl, b107]; rfl)
        | (rw [if_pos b5, if_neg (sw5n hsw).1, if_neg (sw5n hsw).2.1, if_neg (sw5n hsw).2.2.1, if_neg (sw5n hsw).2.2.2.1, if_neg (sw5n hsw).2.2.2.2.1, if_neg (sw5n hsw).2.2.2.2.2]; done)
    · refine ro_tableIn 84 dX6_house_11 (by decide) (by decide) rfl (by decide) ?_
      refine ro_aload_n dX6_house_84 rfl rfl ?_
      refine gf_X6_now  in_X6_house_X6 lk_X6_house_22 dX6_house_85 ?_
      refine ro_iload_n dX6_house_88 rfl rfl ?_
      refine ro_ai ar_107 rfl (by omega) dX6_house_89 ?_
      rw [show M 107 k = nI (sc_who (st_c S) k) from by have z := h.2.1.1 k (by omega); rwa [Nat.zero_add] at z]
      refine ro_iret rfl dX6_house_90 ?_
      refine ⟨?_, h, RScr.rf.all, rfl⟩
      show some (Value.int _) = some (Value.int (sp_house S _ _).1)
      unfold sp_house
      dsimp only
      first
        | (rw [if_neg (by rw [b5]; decide)]; done)
        | (rw [if_pos b5, kx_nI (by omega)]; rfl)
        | (rw [if_pos b5, kx_nI (by omega), if_neg (by decide), if_neg (by decide), if_neg (by decide), if_neg (by decide), if_neg (by decide), if_pos rfl, b107]; rfl)
        | (rw [if_pos b5, if_neg (sw5n hsw).1, if_neg (sw5n hsw).2.1, if_neg (sw5n hsw).2.2.1, if_neg (sw5n hsw).2.2.2.1, if_neg (sw5n hsw).2.2.2.2.1, if_neg (sw5n hsw).2.2.2.2.2]; done)
    · refine ro_tableIn 91 dX6_house_11 (by decide) (by decide) rfl (by decide) ?_
      refine ro_aload_n dX6_house_91 rfl rfl ?_
      refine ro_iconst (v := 0) dX6_house_92 (by decide) ?_
      refine ro_iload_n dX6_house_93 rfl rfl ?_
      refine ro_aload_n dX6_house_94 rfl rfl ?_
      refine ro_iconst (v := 0) dX6_house_95 (by decide) ?_
      refine ro_callV1 ok_X6_sayingOn (cr_sayingOn (lv := 0) (by decide) hL okl hS.2.2.2.1 (by have := oc.2.2.2.2.2; omega)) ce_X6 rfl rfl gX6_house_X6_sayingOn (Nat.le_of_ble_eq_true rfl) (Nat.le_of_ble_eq_true rfl) dX6_house_96 ?_
      refine ro_aload_n dX6_house_99 rfl rfl ?_
      refine ro_iconst (v := 0) dX6_house_100 (by decide) ?_
      refine ro_callV1 ok_X6_rainOn (cr_rainOn (lv := 0) (by decide) hL okl hS.2.2.2.1 (by have := oc.2.2.2.2.2; omega)) ce_X6 rfl rfl gX6_house_X6_rainOn (Nat.le_of_ble_eq_true rfl) (Nat.le_of_ble_eq_true rfl) dX6_house_101 ?_
      refine ro_callV4 ok_X6_hears (cr_hears (lv := 0) (by decide) hL okl hS oc hk (rainAt_le okl _)) ce_X6 rfl rfl gX6_house_X6_hears (Nat.le_of_ble_eq_true rfl) (Nat.le_of_ble_eq_true rfl) dX6_house_104 ?_
      refine ro_if_eq 114 dX6_house_107 (by decide) (fun b107 => ?_) (fun b107 => ?_)
      · rw [bI_eq0] at b107
        refine ro_iconst (v := 0) dX6_house_114 (by decide) ?_
        refine ro_iret rfl dX6_house_115 ?_
        refine ⟨?_, h, RScr.rf.all, rfl⟩
        show some (Value.int _) = some (Value.int (sp_house S _ _).1)
        unfold sp_house
        dsimp only
        first
          | (rw [if_neg (by rw [b5]; decide)]; done)
          | (rw [if_pos b5, kx_nI (by omega)]; rfl)
          | (rw [if_pos b5, kx_nI (by omega), if_neg (by decide), if_neg (by decide), if_neg (by decide), if_neg (by decide), if_neg (by decide), if_pos rfl, b107]; rfl)
          | (rw [if_pos b5, if_neg (sw5n hsw).1, if_neg (sw5n hsw).2.1, if_neg (sw5n hsw).2.2.1, if_neg (sw5n hsw).2.2.2.1, if_neg (sw5n hsw).2.2.2.2.1, if_neg (sw5n hsw).2.2.2.2.2]; done)
      · rw [bI_ne0] at b107
        refine ro_iconst (v := 1) dX6_house_110 (by decide) ?_
        refine ro_goto 115 dX6_house_111 (by decide) ?_
        refine ro_iret rfl dX6_house_115 ?_
        refine ⟨?_, h, RScr.rf.all, rfl⟩
        show some (Value.int _) = some (Value.int (sp_house S _ _).1)
        unfold sp_house
        dsimp only
        first
          | (rw [if_neg (by rw [b5]; decide)]; done)
          | (rw [if_pos b5, kx_nI (by omega)]; rfl)
          | (rw [if_pos b5, kx_nI (by omega), if_neg (by decide), if_neg (by decide), if_neg (by decide), if_neg (by decide), if_neg (by decide), if_pos rfl, b107]; rfl)
          | (rw [if_pos b5, if_neg (sw5n hsw).1, if_neg (sw5n hsw).2.1, if_neg (sw5n hsw).2.2.1, if_neg (sw5n hsw).2.2.2.1, if_neg (sw5n hsw).2.2.2.2.1, if_neg (sw5n hsw).2.2.2.2.2]; done)
  · rw [bI_eq0] at b5
    refine ro_iconst (v := -1) dX6_house_8 (by decide) ?_
    refine ro_iret rfl dX6_house_9 ?_
    refine ⟨?_, h, RScr.rf.all, rfl⟩
    show some (Value.int _) = some (Value.int (sp_house S _ _).1)
    unfold sp_house
    dsimp only
    first
      | (rw [if_neg (by rw [b5]; decide)]; done)
      | (rw [if_pos b5, kx_nI (by omega)]; rfl)
      | (rw [if_pos b5, kx_nI (by omega), if_neg (by decide), if_neg (by decide), if_neg (by decide), if_neg (by decide), if_neg (by decide), if_pos rfl, b107]; rfl)
      | (rw [if_pos b5, if_neg (sw5n hsw).1, if_neg (sw5n hsw).2.1, if_neg (sw5n hsw).2.2.1, if_neg (sw5n hsw).2.2.2.1, if_neg (sw5n hsw).2.2.2.2.1, if_neg (sw5n hsw).2.2.2.2.2]; done)
theorem cr_saying {g : GT} {M : MM} {L : LL} {S : ST} {b : Nat} {x w : Int32} (h : RR M L S) (ok : StOK b S) : CTQ g mX6_saying 1 [.ref (dq_A g 102), .int x, .int w] M L (QR M L (sp_saying S x w)) := by
  have hL := h.1
  have hS : ScR (M 107) (17 * 0) (ln_n (st_l S)) (st_c S) := h.2.1
  have hA := h.2.2.2.2.1
  have okl := ok.2.2.1
  have oc := ok.2.2.2.1
  have a1 := okl.1
  have hb := ok.2.2.2.2.2.2.2
  have h64 := ok.1
  have h8s := okl.2.1
  refine ct_of ok_X6_saying (lv := [some (.ref (dq_A g 102)), some (.int x), some (.int w)]) rfl (Nat.le_of_ble_eq_true rfl) ?_
  refine ro_iload_n dX6_saying_0 rfl rfl ?_
  refine ro_i2l dX6_saying_1 ?_
  refine ro_lconst (v := 0) dX6_saying_2 (by decide) ?_
  refine ro_aload_n dX6_saying_3 rfl rfl ?_
  refine gf_X6_sayings  in_X6_saying_X6 lk_X6_saying_96 dX6_saying_4 ?_
  rw [hL.2.1]
  refine ro_iconst (v := 1) dX6_saying_7 (by decide) ?_
  refine ro_isub dX6_saying_8 ?_
  refine ro_i2l dX6_saying_9 ?_
  refine ro_callS3 ok_X6_in (cr_in _ _ _) gX6_saying_X6_in (Nat.le_of_ble_eq_true rfl) (Nat.le_of_ble_eq_true rfl) dX6_saying_10 ?_
  rw [in_hB (in_nn (by omega)) (by omega)]
  refine ro_if_ne 18 dX6_saying_13 (by decide) (fun b13 => ?_) (fun b13 => ?_)
  · rw [bI_ne0] at b13
    obtain ⟨k, hk, rfl⟩ := hB_some (by omega) b13
    have hsy := hL.2.2.2.2.1 k hk
    refine ro_iload_n dX6_saying_18 rfl rfl ?_
    refine ro_i2l dX6_saying_19 ?_
    refine ro_lconst (v := 0) dX6_saying_20 (by decide) ?_
    refine ro_ldc2 dX6_saying_21 lk_X6_saying_141 ?_
    refine ro_callS3 ok_X6_in (cr_in _ _ _) gX6_saying_X6_in (Nat.le_of_ble_eq_true rfl) (Nat.le_of_ble_eq_true rfl) dX6_saying_24 ?_
    rw [in_hB (n := 3) rfl (by decide)]
    refine ro_if_eq 43 dX6_saying_27 (by decide) (fun b27 => ?_) (fun b27 => ?_)
    · rw [bI_eq0] at b27
      refine ro_bipush (v := -2) dX6_saying_43 (by decide) ?_
      refine ro_iret rfl dX6_saying_45 ?_
      refine ⟨?_, h, RScr.rf.all, rfl⟩
      show some (Value.int _) = some (Value.int (sp_saying S _ _).1)
      unfold sp_saying
      dsimp only
      first
        | (rw [if_neg (by rw [b13]; decide)]; done)
        | (rw [if_pos b13, kx_nI (by omega)]; rcases (show j = 0 ∨ j = 1 ∨ j = 2 by omega) with rfl | rfl | rfl
           · rw [if_pos (show nI 0 = 0 from rfl), Nat.add_zero, hsy.1]
           · rw [if_neg (show ¬ nI 1 = 0 by decide), if_pos (show nI 1 = 1 from rfl), hsy.2.1]
           · rw [if_neg (show ¬ nI 2 = 0 by decide), if_neg (show ¬ nI 2 = 1 by decide), if_pos (show nI 2 = 2 from rfl), hsy.2.2])
        | (rw [if_pos b13, if_neg (fun z => by rw [z] at b27; exact absurd b27 (by decide)), if_neg (fun z => by rw [z] at b27; exact absurd b27 (by decide)), if_neg (fun z => by rw [z] at b27; exact absurd b27 (by decide))]; done)
    · rw [bI_ne0] at b27
      obtain ⟨j, hj, rfl⟩ := hB_some (by omega) b27
      refine ro_aload_n dX6_saying_30 rfl rfl ?_
      refine gf_X6_saying  in_X6_saying_X6 lk_X6_saying_16 dX6_saying_31 ?_
      refine ro_iconst (v := 3) dX6_saying_34 (by decide) ?_
      refine ro_iload_n dX6_saying_35 rfl rfl ?_
      refine ro_imul dX6_saying_36 ?_
      refine ro_top (show _ = nI (3 * k) from pk_mul 3 k) ?_
      refine ro_iload_n dX6_saying_37 rfl rfl ?_
      refine ro_iadd dX6_saying_38 ?_
      refine ro_top (show _ = nI (3 * k + j) from nI_add (3 * k) (j)) ?_
      refine ro_ai ar_105 rfl (by omega) dX6_saying_39 ?_
      refine ro_goto 45 dX6_saying_40 (by decide) ?_
      refine ro_iret rfl dX6_saying_45 ?_
      refine ⟨?_, h, RScr.rf.all, rfl⟩
      show some (Value.int _) = some (Value.int (sp_saying S _ _).1)
      unfold sp_saying
      dsimp only
      first
        | (rw [if_neg (by rw [b13]; decide)]; done)
        | (rw [if_pos b13, kx_nI (by omega)]; rcases (show j = 0 ∨ j = 1 ∨ j = 2 by omega) with rfl | rfl | rfl
           · rw [if_pos (show nI 0 = 0 from rfl), Nat.add_zero, hsy.1]
           · rw [if_neg (show ¬ nI 1 = 0 by decide), if_pos (show nI 1 = 1 from rfl), hsy.2.1]
           · rw [if_neg (show ¬ nI 2 = 0 by decide), if_neg (show ¬ nI 2 = 1 by decide), if_pos (show nI 2 = 2 from rfl), hsy.2.2])
        | (rw [if_pos b13, if_neg (fun z => by rw [z] at b27; exact absurd b27 (by decide)), if_neg (fun z => by rw [z] at b27; exact absurd b27 (by decide)), if_neg (fun z => by rw [z] at b27; exact absurd b27 (by decide))]; done)
  · rw [bI_eq0] at b13
    refine ro_iconst (v := -1) dX6_saying_16 (by decide) ?_
    refine ro_iret rfl dX6_saying_17 ?_
    refine ⟨?_, h, RScr.rf.all, rfl⟩
    show some (Value.int _) = some (Value.int (sp_saying S _ _).1)
    unfold sp_saying
    dsimp only
    first
      | (rw [if_neg (by rw [b13]; decide)]; done)
      | (rw [if_pos b13, kx_nI (by omega)]; rcases (show j = 0 ∨ j = 1 ∨ j = 2 by omega) with rfl | rfl | rfl
         · rw [if_pos (show nI 0 = 0 from rfl), Nat.add_zero, hsy.1]
         · rw [if_neg (show ¬ nI 1 = 0 by decide), if_pos (show nI 1 = 1 from rfl), hsy.2.1]
         · rw [if_neg (show ¬ nI 2 = 0 by decide), if_neg (show ¬ nI 2 = 1 by decide), if_pos (show nI 2 = 2 from rfl), hsy.2.2])
      | (rw [if_pos b13, if_neg (fun z => by rw [z] at b27; exact absurd b27 (by decide)), if_neg (fun z => by rw [z] at b27; exact absurd b27 (by decide)), if_neg (fun z => by rw [z] at b27; exact absurd b27 (by decide))]; done)
theorem zo_hB (z : Int32) : hB 2 z = zo z := by
  unfold hB zo
  apply decide_eq_decide.mpr
  rcases pk_ix z (n := 2) (by decide) with q | q | ⟨k, hk, rfl⟩
  · constructor
    · intro y; exact absurd q y.1
    · rintro (rfl | rfl) <;> exact absurd q (by decide)
  · constructor
    · intro y; exact absurd q y.2
    · rintro (rfl | rfl) <;> exact absurd q (by decide)
  · rcases (show k = 0 ∨ k = 1 by omega) with rfl | rfl
    · exact ⟨fun _ => Or.inl rfl, fun _ => ⟨by decide, by decide⟩⟩
    · exact ⟨fun _ => Or.inr rfl, fun _ => ⟨by decide, by decide⟩⟩
theorem cr_hear {g : GT} {M : MM} {L : LL} {S : ST} {b : Nat} {x y z : Int32} (h : RR M L S) (ok : StOK b S) : CTQ g mX6_hear 1 [.ref (dq_A g 102), .int x, .int y, .int z] M L (QR M L (sp_hear S x y z)) := by
  have hL := h.1
  have hS : ScR (M 107) (17 * 0) (ln_n (st_l S)) (st_c S) := h.2.1
  have hA := h.2.2.2.2.1
  have okl := ok.2.2.1
  have oc := ok.2.2.2.1
  have a1 := okl.1
  have hb := ok.2.2.2.2.2.2.2
  have h64 := ok.1
  have hH := h.2.2.2.2.2.2.1
  have okh := ok.2.2.2.2.2.2.1
  have h6 := okh.1
  refine ct_of ok_X6_hear (lv := [some (.ref (dq_A g 102)), some (.int x), some (.int y), some (.int z)]) rfl (Nat.le_of_ble_eq_true rfl) ?_
  refine ro_iload_n dX6_hear_0 rfl rfl ?_
  refine ro_i2l dX6_hear_1 ?_
  refine ro_lconst (v := 0) dX6_hear_2 (by decide) ?_
  refine ro_ldc2 dX6_hear_3 lk_X6_hear_197 ?_
  refine ro_callS3 ok_X6_in (cr_in _ _ _) gX6_hear_X6_in (Nat.le_of_ble_eq_true rfl) (Nat.le_of_ble_eq_true rfl) dX6_hear_6 ?_
  rw [in_hB (n := 10) rfl (by decide)]
  refine ro_if_eq 34 dX6_hear_9 (by decide) (fun b9 => ?_) (fun b9 => ?_)
  · rw [bI_eq0] at b9
    refine ro_bipush (v := -2) dX6_hear_34 (by decide) ?_
    refine ro_iret rfl dX6_hear_36 ?_
    rw [show sp_hear S x y z = (-2, S) from if_neg (fun q => by first | (rw [b9] at q; exact absurd q.1 (by decide)) | (rw [b21] at q; exact absurd q.2.1 (by decide)) | (rw [b31] at q; exact absurd q.2.2 (by decide)))]
    exact ⟨rfl, h, RScr.rf.all, rfl⟩
  · rw [bI_ne0] at b9
    refine ro_iload_n dX6_hear_12 rfl rfl ?_
    refine ro_i2l dX6_hear_13 ?_
    refine ro_lconst (v := 0) dX6_hear_14 (by decide) ?_
    refine ro_ldc2 dX6_hear_15 lk_X6_hear_197 ?_
    refine ro_callS3 ok_X6_in (cr_in _ _ _) gX6_hear_X6_in (Nat.le_of_ble_eq_true rfl) (Nat.le_of_ble_eq_true rfl) dX6_hear_18 ?_
    rw [in_hB (n := 10) rfl (by decide)]
    refine ro_if_eq 34 dX6_hear_21 (by decide) (fun b21 => ?_) (fun b21 => ?_)
    · rw [bI_eq0] at b21
      refine ro_bipush (v := -2) dX6_hear_34 (by decide) ?_
      refine ro_iret rfl dX6_hear_36 ?_
      rw [show sp_hear S x y z = (-2, S) from if_neg (fun q => by first | (rw [b9] at q; exact absurd q.1 (by decide)) | (rw [b21] at q; exact absurd q.2.1 (by decide)) | (rw [b31] at q; exact absurd q.2.2 (by decide)))]
      exact ⟨rfl, h, RScr.rf.all, rfl⟩
    · rw [bI_ne0] at b21
      refine ro_iload_n dX6_hear_24 rfl rfl ?_
      refine ro_i2l dX6_hear_25 ?_
      refine ro_lconst (v := 0) dX6_hear_26 (by decide) ?_
      refine ro_lconst (v := 1) dX6_hear_27 (by decide) ?_
      refine ro_callS3 ok_X6_in (cr_in _ _ _) gX6_hear_X6_in (Nat.le_of_ble_eq_true rfl) (Nat.le_of_ble_eq_true rfl) dX6_hear_28 ?_
      rw [in_hB (n := 2) rfl (by decide), zo_hB]
      refine ro_if_ne 37 dX6_hear_31 (by decide) (fun b31 => ?_) (fun b31 => ?_)
      · rw [bI_ne0] at b31
        obtain ⟨k, hk, rfl⟩ := hB_some (by omega) b9
        obtain ⟨j, hj, rfl⟩ := hB_some (by omega) b21
        have hzb : z = bI (decide (z = 1)) := by by_cases e0 : z = 0; (subst e0; rfl); (have e1 := zo_ne b31 e0; subst e1; rfl)
        refine ro_aload_n dX6_hear_37 rfl rfl ?_
        refine gf_X6_heard  in_X6_hear_X6 lk_X6_hear_199 dX6_hear_38 ?_
        rw [hH.1]
        refine ro_bipush (v := 6) dX6_hear_41 (by decide) ?_
        refine ro_icmp_ne 49 dX6_hear_43 (by decide) (fun b43 => ?_) (fun b43 => ?_)
        · replace b43 : ¬ hd_n (st_h S) = 6 := fun q => b43 (by rw [q]; rfl)
          refine ro_aload_n dX6_hear_49 rfl rfl ?_
          refine gf_X6_heardLoud  in_X6_hear_X6 lk_X6_hear_40 dX6_hear_50 ?_
          refine ro_aload_n dX6_hear_53 rfl rfl ?_
          refine gf_X6_heard  in_X6_hear_X6 lk_X6_hear_199 dX6_hear_54 ?_
          rw [hH.1]
          refine ro_iload_n dX6_hear_57 rfl rfl ?_
          refine ro_as ar_113 rfl (by omega) dX6_hear_58 (fun M58 e58 => ?_)
          refine ro_aload_n dX6_hear_59 rfl rfl ?_
          refine gf_X6_heardRain  in_X6_hear_X6 lk_X6_hear_43 dX6_hear_60 ?_
          refine ro_aload_n dX6_hear_63 rfl rfl ?_
          refine gf_X6_heard  in_X6_hear_X6 lk_X6_hear_199 dX6_hear_64 ?_
          rw [show M58 102 21 = nI (hd_n (st_h S)) by rw [e58, va_up_ne _ _ (by decide)]; exact hH.1]
          refine ro_iload_n dX6_hear_67 rfl rfl ?_
          refine ro_as ar_114 rfl (by omega) dX6_hear_68 (fun M68 e68 => ?_)
          refine ro_aload_n dX6_hear_69 rfl rfl ?_
          refine gf_X6_heardIs  in_X6_hear_X6 lk_X6_hear_46 dX6_hear_70 ?_
          refine ro_aload_n dX6_hear_73 rfl rfl ?_
          refine gf_X6_heard  in_X6_hear_X6 lk_X6_hear_199 dX6_hear_74 ?_
          rw [show M68 102 21 = nI (hd_n (st_h S)) by rw [e68, va_up_ne _ _ (by decide), e58, va_up_ne _ _ (by decide)]; exact hH.1]
          refine ro_iload_n dX6_hear_77 rfl rfl ?_
          refine ro_as ar_115 rfl (by omega) dX6_hear_78 (fun M78 e78 => ?_)
          refine ro_aload_n dX6_hear_79 rfl rfl ?_
          refine ro_dup dX6_hear_80 rfl ?_
          refine gf_X6_heard  in_X6_hear_X6 lk_X6_hear_199 dX6_hear_81 ?_
          rw [show M78 102 21 = nI (hd_n (st_h S)) by rw [e78, va_up_ne _ _ (by decide), e68, va_up_ne _ _ (by decide), e58, va_up_ne _ _ (by decide)]; exact hH.1]
          refine ro_iconst (v := 1) dX6_hear_84 (by decide) ?_
          refine ro_iadd dX6_hear_85 ?_
          rw [nI_1]
          refine pf_X6_heard  in_X6_hear_X6 lk_X6_hear_199  dX6_hear_86 (fun M86 e86 => ?_)
          refine ro_aload_n dX6_hear_89 rfl rfl ?_
          refine gf_X6_heard  in_X6_hear_X6 lk_X6_hear_199 dX6_hear_90 ?_
          refine ro_top (show M86 102 21 = nI (hd_n (st_h S) + 1) from by rw [e86, va_up_self, pk_us]) ?_
          refine ro_iret rfl dX6_hear_93 ?_
          rw [show sp_hear S (nI k) (nI j) z = _ from (if_pos ⟨b9, b21, b31⟩).trans (if_pos (by omega)), kx_nI (by omega), kx_nI (by omega)]
          have ho : ∀ q, q ≠ 102 → q ≠ 113 → q ≠ 114 → q ≠ 115 → M86 q = M q := fun q a b d e => by rw [e86, va_up_ne _ _ a, e78, va_up_ne _ _ e, e68, va_up_ne _ _ d, e58, va_up_ne _ _ b]
          have r2 : M86 102 = upd (M 102) 21 (nI (hd_n (st_h S) + 1)) := by rw [e86, va_up_self, e78, va_up_ne _ _ (by decide), e68, va_up_ne _ _ (by decide), e58, va_up_ne _ _ (by decide)]
          have hf : ∀ k, k ≠ 21 → M86 102 k = M 102 k := fun k a => by rw [r2, pk_un a]
          have r3 : M86 113 = upd (M 113) (hd_n (st_h S)) (nI k) := by rw [e86, va_up_ne _ _ (by decide), e78, va_up_ne _ _ (by decide), e68, va_up_ne _ _ (by decide), e58, va_up_self]
          have r4 : M86 114 = upd (M 114) (hd_n (st_h S)) (nI j) := by rw [e86, va_up_ne _ _ (by decide), e78, va_up_ne _ _ (by decide), e68, va_up_self, e58, va_up_ne _ _ (by decide)]
          have r5 : M86 115 = upd (M 115) (hd_n (st_h S)) z := by rw [e86, va_up_ne _ _ (by decide), e78, va_up_self, e68, va_up_ne _ _ (by decide), e58, va_up_ne _ _ (by decide)]
          obtain ⟨y1, y2, y3, y4, y5, y6, y8, y9⟩ := h
          refine ⟨rfl, ⟨y1.keep (fun k z => hf k (by omega)) (fun q a b => ho q (by omega) (by omega) (by omega) (by omega)), by rw [ho 107 (by omega) (by omega) (by omega) (by omega)]; exact y2, (hf 15 (by decide)).trans y3, by rw [ho 111 (by omega) (by omega) (by omega) (by omega)]; exact y4, y5.keep (hf 18 (by decide)) (hf 19 (by decide)) (ho 112 (by omega) (by omega) (by omega) (by omega)), y6.keep (ho 116 (by omega) (by omega) (by omega) (by omega)) (ho 117 (by omega) (by omega) (by omega) (by omega)), ⟨by rw [r2, pk_us]; rfl, by rw [r3]; exact row_add hH.2.1, by rw [r4]; exact row_add hH.2.2.1, ?_⟩, y9⟩, fun q hq => ho q (by omega) (by omega) (by omega) (by omega), rfl⟩
          rw [r5]
          intro q hq
          have hq2 : q < hd_n (st_h S) + 1 := hq
          show upd (M 115) (hd_n (st_h S)) z q = bI (va_up (hd_w (st_h S)) (hd_n (st_h S)) (decide (z = 1)) q)
          unfold upd va_up
          split
          · exact hzb
          · exact hH.2.2.2 q (by omega)
        · replace b43 : hd_n (st_h S) = 6 := (nI_eq (b := 6) (by omega) (by decide)).mp b43
          refine ro_bipush (v := -4) dX6_hear_46 (by decide) ?_
          refine ro_iret rfl dX6_hear_48 ?_
          rw [show sp_hear S (nI k) (nI j) z = (-4, S) from (if_pos ⟨b9, b21, b31⟩).trans (if_neg (by omega))]
          exact ⟨rfl, h, RScr.rf.all, rfl⟩
      · rw [bI_eq0] at b31
        refine ro_bipush (v := -2) dX6_hear_34 (by decide) ?_
        refine ro_iret rfl dX6_hear_36 ?_
        rw [show sp_hear S x y z = (-2, S) from if_neg (fun q => by first | (rw [b9] at q; exact absurd q.1 (by decide)) | (rw [b21] at q; exact absurd q.2.1 (by decide)) | (rw [b31] at q; exact absurd q.2.2 (by decide)))]
        exact ⟨rfl, h, RScr.rf.all, rfl⟩
theorem cr_unhear {g : GT} {M : MM} {L : LL} {S : ST} {b : Nat} (h : RR M L S) (ok : StOK b S) : CTQ g mX6_unhear 0 [.ref (dq_A g 102)] M L (QR M L (sp_unhear S)) := by
  have hL := h.1
  have hS : ScR (M 107) (17 * 0) (ln_n (st_l S)) (st_c S) := h.2.1
  have hA := h.2.2.2.2.1
  have okl := ok.2.2.1
  have oc := ok.2.2.2.1
  have a1 := okl.1
  have hb := ok.2.2.2.2.2.2.2
  have h64 := ok.1
  have hH := h.2.2.2.2.2.2.1
  have okh := ok.2.2.2.2.2.2.1
  have h6 := okh.1
  refine ct_of ok_X6_unhear (lv := [some (.ref (dq_A g 102)), none]) rfl (Nat.le_of_ble_eq_true rfl) ?_
  refine ro_aload_n dX6_unhear_0 rfl rfl ?_
  refine gf_X6_heard  in_X6_unhear_X6 lk_X6_unhear_199 dX6_unhear_1 ?_
  rw [hH.1]
  refine ro_istore_n1 dX6_unhear_4 (Nat.le_of_ble_eq_true rfl) rfl ?_
  refine ro_aload_n dX6_unhear_5 rfl rfl ?_
  refine ro_iconst (v := 0) dX6_unhear_6 (by decide) ?_
  refine pf_X6_heard  in_X6_unhear_X6 lk_X6_unhear_199  dX6_unhear_7 (fun M7 e7 => ?_)
  refine ro_iload_n dX6_unhear_10 rfl rfl ?_
  refine ro_iret rfl dX6_unhear_11 ?_
  have ho : ∀ q, q ≠ 102 → M7 q = M q := fun q a => by rw [e7, va_up_ne _ _ a]
  have r2 : M7 102 = upd (M 102) 21 0 := by rw [e7, va_up_self]
  have hf : ∀ k, k ≠ 21 → M7 102 k = M 102 k := fun k a => by rw [r2, pk_un a]
  obtain ⟨y1, y2, y3, y4, y5, y6, y8, y9⟩ := h
  exact ⟨rfl, ⟨y1.keep (fun k z => hf k (by omega)) (fun q a b => ho q (by omega)), by rw [ho 107 (by omega)]; exact y2, (hf 15 (by decide)).trans y3, by rw [ho 111 (by omega)]; exact y4, y5.keep (hf 18 (by decide)) (hf 19 (by decide)) (ho 112 (by omega)), y6.keep (ho 116 (by omega)) (ho 117 (by omega)), ⟨by rw [r2, pk_us]; rfl, fun j hj => absurd hj (Nat.not_lt_zero j), fun j hj => absurd hj (Nat.not_lt_zero j), fun j hj => absurd hj (Nat.not_lt_zero j)⟩, y9⟩, fun q hq => ho q (by omega), rfl⟩
def QRl (M : MM) (L : LL) (rs : Int64 × ST) : Option Value → MM → LL → Prop := fun v M' L' => v = some (.long rs.1) ∧ RR M' L' rs.2 ∧ OnlyB 102 117 M M' ∧ L' 0 = L 0
theorem RR.seed {M : MM} {L L' : LL} {S : ST} {z : Int64} (h : RR M L S) (hz : L' 102 = z) : RR M L' (setS S z) := ⟨h.1, h.2.1, h.2.2.1, h.2.2.2.1, h.2.2.2.2.1, h.2.2.2.2.2.1, h.2.2.2.2.2.2.1, hz⟩
theorem cr_seed {g : GT} {M : MM} {L : LL} {S : ST} {b : Nat} {z : Int64} (h : RR M L S) (ok : StOK b S) : CTQ g mX6_seed 0 [.ref (dq_A g 102), .long z] M L (QRl M L (sp_seed S z)) := by
  refine ct_of ok_X6_seed (lv := [some (.ref (dq_A g 102)), some (.long z), none, none, none]) rfl (Nat.le_of_ble_eq_true rfl) ?_
  refine ro_aload_n dX6_seed_0 rfl rfl ?_
  refine gf_X6_seed  in_X6_seed_X6 lk_X6_seed_218 dX6_seed_1 ?_
  rw [h.2.2.2.2.2.2.2]
  refine ro_lstore_n3 dX6_seed_4 (Nat.le_of_ble_eq_true rfl) rfl ?_
  refine ro_aload_n dX6_seed_5 rfl rfl ?_
  refine ro_lload_n dX6_seed_6 rfl rfl ?_
  refine pf_X6_seed  in_X6_seed_X6 lk_X6_seed_218  dX6_seed_7 (fun L7 e7 => ?_)
  refine ro_lload_n dX6_seed_10 rfl rfl ?_
  refine ro_lret rfl dX6_seed_11 ?_
  exact ⟨rfl, h.seed (by rw [e7, va_up_self]), RScr.rf.all, by rw [e7, va_up_ne _ _ (by decide)]⟩
theorem lr_keep {g : GT} {L : LL} {k : Nat} {c : SC} {M0 : MM} (hk : k < 2) (hh : M0 107 15 = nI (sc_hr c)) : ∀ (f i : Nat), i + f = 17 → ∀ M : MM, (∀ q, q < i → M 117 (17 * k + q) = M0 107 q) → (∀ q, q < 17 * k ∨ 17 * k + 17 ≤ q → M 117 q = M0 117 q) → OnlyB 117 117 M0 M → JW g mX6_keep 1 (fun v M' L' => v = some (.int (nI (sc_hr c))) ∧ (∀ q, q < 17 → M' 117 (17 * k + q) = M0 107 q) ∧ (∀ q, q < 17 * k ∨ 17 * k + 17 ≤ q → M' 117 q = M0 117 q) ∧ OnlyB 117 117 M0 M' ∧ L' = L) M L 21 [some (.ref (dq_A g 102)), some (.int (nI k)), some (.int (nI i))] [] := by
  intro f
  induction f with
  | zero =>
    intro i hi M hr hq ho
    refine ro_iload_n dX6_keep_21 rfl rfl ?_
    refine ro_bipush (v := 17) dX6_keep_22 (by decide) ?_
    refine ro_icmp_ge 50 dX6_keep_24 (by decide) (fun b24 => ?_) (fun b24 => ?_)
    · refine ro_aload_n dX6_keep_50 rfl rfl ?_
      refine gf_X6_now  in_X6_keep_X6 lk_X6_keep_22 dX6_keep_51 ?_
      refine ro_bipush (v := 15) dX6_keep_54 (by decide) ?_
      refine ro_ai ar_107 (k := 15) rfl (by decide) dX6_keep_56 ?_
      rw [ho 107 (by omega), hh]
      refine ro_iret rfl dX6_keep_57 ?_
      have e : i = 17 := by omega
      subst e
      exact ⟨rfl, hr, hq, ho, rfl⟩
    · exact absurd (nI_le (a := 17) (by omega) (by omega)) b24
  | succ f ih =>
    intro i hi M hr hq ho
    refine ro_iload_n dX6_keep_21 rfl rfl ?_
    refine ro_bipush (v := 17) dX6_keep_22 (by decide) ?_
    refine ro_icmp_ge 50 dX6_keep_24 (by decide) (fun b24 => ?_) (fun b24 => ?_)
    · exact absurd b24 (nI_ge (b := 17) (by omega) (by decide))
    · refine ro_aload_n dX6_keep_27 rfl rfl ?_
      refine gf_X6_kept  in_X6_keep_X6 lk_X6_keep_53 dX6_keep_28 ?_
      refine ro_bipush (v := 17) dX6_keep_31 (by decide) ?_
      refine ro_iload_n dX6_keep_33 rfl rfl ?_
      refine ro_imul dX6_keep_34 ?_
      refine ro_top (show _ = nI (17 * k) from pk_mul 17 (k)) ?_
      refine ro_iload_n dX6_keep_35 rfl rfl ?_
      refine ro_iadd dX6_keep_36 ?_
      refine ro_top (show _ = nI (17 * k + i) from nI_add (17 * k) (i)) ?_
      refine ro_aload_n dX6_keep_37 rfl rfl ?_
      refine gf_X6_now  in_X6_keep_X6 lk_X6_keep_22 dX6_keep_38 ?_
      refine ro_iload_n dX6_keep_41 rfl rfl ?_
      refine ro_ai ar_107 rfl (by omega) dX6_keep_42 ?_
      refine ro_as ar_117 rfl (by omega) dX6_keep_43 (fun M43 e43 => ?_)
      refine ro_iincP2 dX6_keep_44 (Nat.le_of_ble_eq_true rfl) rfl ?_
      refine ro_goto 21 dX6_keep_47 (by decide) ?_
      rw [nI_1]
      have r7 : M43 117 = upd (M 117) (17 * k + i) (M 107 i) := by rw [e43, va_up_self]
      refine ih (i + 1) (by omega) M43 (fun q hq2 => ?_) (fun q hq2 => ?_) (ho.tr (OnlyB.up e43 (by decide) (by decide)))
      · rw [r7]
        by_cases z : q = i
        · subst z; rw [pk_us, ho 107 (by omega)]
        · rw [pk_un (by omega)]; exact hr q (by omega)
      · rw [r7, pk_un (by omega)]; exact hq q hq2
theorem cr_keep {g : GT} {M : MM} {L : LL} {S : ST} {b : Nat} {x : Int32} (h : RR M L S) (ok : StOK b S) : CTQ g mX6_keep 1 [.ref (dq_A g 102), .int x] M L (QR M L (sp_keep S x)) := by
  have hL := h.1
  have hS : ScR (M 107) (17 * 0) (ln_n (st_l S)) (st_c S) := h.2.1
  have hA := h.2.2.2.2.1
  have okl := ok.2.2.1
  have oc := ok.2.2.2.1
  have a1 := okl.1
  have hb := ok.2.2.2.2.2.2.2
  have h64 := ok.1
  refine ct_of ok_X6_keep (lv := [some (.ref (dq_A g 102)), some (.int x), none]) rfl (Nat.le_of_ble_eq_true rfl) ?_
  refine ro_iload_n dX6_keep_0 rfl rfl ?_
  refine ro_i2l dX6_keep_1 ?_
  refine ro_lconst (v := 0) dX6_keep_2 (by decide) ?_
  refine ro_lconst (v := 1) dX6_keep_3 (by decide) ?_
  refine ro_callS3 ok_X6_in (cr_in _ _ _) gX6_keep_X6_in (Nat.le_of_ble_eq_true rfl) (Nat.le_of_ble_eq_true rfl) dX6_keep_4 ?_
  rw [in_hB (n := 2) rfl (by decide)]
  refine ro_if_ne 12 dX6_keep_7 (by decide) (fun b7 => ?_) (fun b7 => ?_)
  · rw [bI_ne0] at b7
    obtain ⟨k, hk, rfl⟩ := hB_some (by omega) b7
    refine ro_aload_n dX6_keep_12 rfl rfl ?_
    refine gf_X6_isKept  in_X6_keep_X6 lk_X6_keep_49 dX6_keep_13 ?_
    refine ro_iload_n dX6_keep_16 rfl rfl ?_
    refine ro_iconst (v := 1) dX6_keep_17 (by decide) ?_
    refine ro_bs br_116 rfl hk rfl dX6_keep_18 (fun M18 e18 => ?_)
    refine ro_iconst (v := 0) dX6_keep_19 (by decide) ?_
    refine ro_istore_n2 dX6_keep_20 (Nat.le_of_ble_eq_true rfl) rfl ?_
    have o18 : OnlyB 116 116 M M18 := OnlyB.up e18 (by decide) (by decide)
    refine JW.mono ?_ (lr_keep (M0 := M18) (c := st_c S) hk (by rw [o18 107 (by omega)]; exact h.2.1.2.2.2.1) 17 0 rfl M18 (fun q hq => absurd hq (Nat.not_lt_zero q)) (fun _ _ => rfl) OnlyB.rf)
    rintro v M' L' ⟨rfl, hr, hq, ho, rfl⟩
    rw [show sp_keep S (nI k) = _ from if_pos b7, kx_nI (by omega)]
    have hg : ∀ i, i ≠ 116 → i ≠ 117 → M' i = M i := fun i a b => (ho i (by omega)).trans (o18 i (by omega))
    obtain ⟨y1, y2, y3, y4, y5, y6, y8, y9⟩ := h
    refine ⟨rfl, ⟨y1.keep (fun k z => by rw [hg 102 (by decide) (by decide)]) (fun q a b => hg q (by omega) (by omega)), by rw [hg 107 (by decide) (by decide)]; exact y2, by rw [hg 102 (by decide) (by decide)]; exact y3, by rw [hg 111 (by decide) (by decide)]; exact y4, y5.keep (by rw [hg 102 (by decide) (by decide)]) (by rw [hg 102 (by decide) (by decide)]) (hg 112 (by decide) (by decide)), fun j hj => ?_, y8.keep (by rw [hg 102 (by decide) (by decide)]) (fun i a b => hg i (by omega) (by omega)), y9⟩, fun i hi => hg i (by omega) (by omega), rfl⟩
    rw [ho 116 (by omega), e18, va_up_self]
    show upd (M 116) k 1 j = bI (va_up (st_k S) k (some (st_c S)) j).isSome ∧ ∀ c, va_up (st_k S) k (some (st_c S)) j = some c → ScR (M' 117) (17 * j) (ln_n (st_l S)) c
    by_cases hjk : j = k
    · subst hjk
      rw [pk_us, va_up_self]
      refine ⟨rfl, fun c hc => ?_⟩
      cases hc
      exact y2.cong (fun q hq2 => by rw [hr q hq2, Nat.zero_add, o18 107 (by omega)])
    · rw [pk_un hjk, va_up_ne _ _ hjk]
      refine ⟨(y6 j hj).1, fun c hc => ((y6 j hj).2 c hc).cong (fun q hq2 => ?_)⟩
      rw [hq _ (by omega), o18 117 (by omega)]
  · rw [bI_eq0] at b7
    refine ro_iconst (v := -1) dX6_keep_10 (by decide) ?_
    refine ro_iret rfl dX6_keep_11 ?_
    rw [show sp_keep S x = (-1, S) from if_neg (by rw [b7]; decide)]
    exact ⟨rfl, h, RScr.rf.all, rfl⟩
theorem lr_again {g : GT} {L : LL} {k n : Nat} {c : SC} {M0 : MM} (hk : k < 2) (hc : ScR (M0 117) (17 * k) n c) : ∀ (f i : Nat), i + f = 17 → ∀ M : MM, (∀ q, q < i → M 107 q = M0 117 (17 * k + q)) → OnlyB 107 107 M0 M → JW g mX6_again 1 (fun v M' L' => v = some (.int (nI (sc_hr c))) ∧ ScR (M' 107) 0 n c ∧ (∀ q, q ≠ 102 → q ≠ 107 → M' q = M0 q) ∧ (∀ q, q ≠ 18 → M' 102 q = M0 102 q) ∧ M' 102 18 = 0 ∧ L' = L) M L 26 [some (.ref (dq_A g 102)), some (.int (nI k)), some (.int (nI i))] [] := by
  intro f
  induction f with
  | zero =>
    intro i hi M hr ho
    refine ro_iload_n dX6_again_26 rfl rfl ?_
    refine ro_bipush (v := 17) dX6_again_27 (by decide) ?_
    refine ro_icmp_ge 55 dX6_again_29 (by decide) (fun b29 => ?_) (fun b29 => ?_)
    · refine ro_aload_n dX6_again_55 rfl rfl ?_
      refine ro_iconst (v := 0) dX6_again_56 (by decide) ?_
      refine pf_X6_acts  in_X6_again_X6 lk_X6_again_102  dX6_again_57 (fun M57 e57 => ?_)
      have hS57 : ScR (M57 107) 0 n c := hc.cong (fun q hq2 => by rw [Nat.zero_add, e57, va_up_ne _ _ (by decide)]; exact hr q (by omega))
      refine ro_aload_n dX6_again_60 rfl rfl ?_
      refine gf_X6_now  in_X6_again_X6 lk_X6_again_22 dX6_again_61 ?_
      refine ro_bipush (v := 15) dX6_again_64 (by decide) ?_
      refine ro_ai ar_107 (k := 15) rfl (by decide) dX6_again_66 ?_
      rw [show M57 107 15 = nI (sc_hr c) from hS57.2.2.2.1]
      refine ro_iret rfl dX6_again_67 ?_
      exact ⟨rfl, hS57, fun q a b => by rw [e57, va_up_ne _ _ a]; exact ho q (by omega), fun q a => by rw [e57, va_up_self, pk_un a, ho 102 (by omega)], by rw [e57, va_up_self, pk_us], rfl⟩
    · exact absurd (nI_le (a := 17) (by omega) (by omega)) b29
  | succ f ih =>
    intro i hi M hr ho
    refine ro_iload_n dX6_again_26 rfl rfl ?_
    refine ro_bipush (v := 17) dX6_again_27 (by decide) ?_
    refine ro_icmp_ge 55 dX6_again_29 (by decide) (fun b29 => ?_) (fun b29 => ?_)
    · exact absurd b29 (nI_ge (b := 17) (by omega) (by decide))
    · refine ro_aload_n dX6_again_32 rfl rfl ?_
      refine gf_X6_now  in_X6_again_X6 lk_X6_again_22 dX6_again_33 ?_
      refine ro_iload_n dX6_again_36 rfl rfl ?_
      refine ro_aload_n dX6_again_37 rfl rfl ?_
      refine gf_X6_kept  in_X6_again_X6 lk_X6_again_53 dX6_again_38 ?_
      refine ro_bipush (v := 17) dX6_again_41 (by decide) ?_
      refine ro_iload_n dX6_again_43 rfl rfl ?_
      refine ro_imul dX6_again_44 ?_
      refine ro_top (show _ = nI (17 * k) from pk_mul 17 (k)) ?_
      refine ro_iload_n dX6_again_45 rfl rfl ?_
      refine ro_iadd dX6_again_46 ?_
      refine ro_top (show _ = nI (17 * k + i) from nI_add (17 * k) (i)) ?_
      refine ro_ai ar_117 rfl (by omega) dX6_again_47 ?_
      refine ro_as ar_107 rfl (by omega) dX6_again_48 (fun M48 e48 => ?_)
      refine ro_iincP2 dX6_again_49 (Nat.le_of_ble_eq_true rfl) rfl ?_
      refine ro_goto 26 dX6_again_52 (by decide) ?_
      rw [nI_1]
      have r7 : M48 107 = upd (M 107) i (M 117 (17 * k + i)) := by rw [e48, va_up_self]
      refine ih (i + 1) (by omega) M48 (fun q hq2 => ?_) (ho.tr (OnlyB.up e48 (by decide) (by decide)))
      rw [r7]
      by_cases z : q = i
      · subst z; rw [pk_us, ho 117 (by omega)]
      · rw [pk_un z]; exact hr q (by omega)
theorem cr_again {g : GT} {M : MM} {L : LL} {S : ST} {b : Nat} {x : Int32} (h : RR M L S) (ok : StOK b S) : CTQ g mX6_again 1 [.ref (dq_A g 102), .int x] M L (QR M L (sp_again S x)) := by
  have hL := h.1
  have hS : ScR (M 107) (17 * 0) (ln_n (st_l S)) (st_c S) := h.2.1
  have hA := h.2.2.2.2.1
  have okl := ok.2.2.1
  have oc := ok.2.2.2.1
  have a1 := okl.1
  have hb := ok.2.2.2.2.2.2.2
  have h64 := ok.1
  refine ct_of ok_X6_again (lv := [some (.ref (dq_A g 102)), some (.int x), none]) rfl (Nat.le_of_ble_eq_true rfl) ?_
  refine ro_iload_n dX6_again_0 rfl rfl ?_
  refine ro_i2l dX6_again_1 ?_
  refine ro_lconst (v := 0) dX6_again_2 (by decide) ?_
  refine ro_lconst (v := 1) dX6_again_3 (by decide) ?_
  refine ro_callS3 ok_X6_in (cr_in _ _ _) gX6_again_X6_in (Nat.le_of_ble_eq_true rfl) (Nat.le_of_ble_eq_true rfl) dX6_again_4 ?_
  rw [in_hB (n := 2) rfl (by decide)]
  refine ro_if_ne 12 dX6_again_7 (by decide) (fun b7 => ?_) (fun b7 => ?_)
  · rw [bI_ne0] at b7
    obtain ⟨k, hk, rfl⟩ := hB_some (by omega) b7
    refine ro_aload_n dX6_again_12 rfl rfl ?_
    refine gf_X6_isKept  in_X6_again_X6 lk_X6_again_49 dX6_again_13 ?_
    refine ro_iload_n dX6_again_16 rfl rfl ?_
    refine ro_bi br_116 rfl hk dX6_again_17 ?_
    rw [(h.2.2.2.2.2.1 k hk).1]
    refine ro_if_ne 24 dX6_again_18 (by decide) (fun b18 => ?_) (fun b18 => ?_)
    · rw [bI_ne0] at b18
      obtain ⟨c, hc⟩ := Option.isSome_iff_exists.mp b18
      refine ro_iconst (v := 0) dX6_again_24 (by decide) ?_
      refine ro_istore_n2 dX6_again_25 (Nat.le_of_ble_eq_true rfl) rfl ?_
      refine JW.mono ?_ (lr_again (M0 := M) hk ((h.2.2.2.2.2.1 k hk).2 c hc) 17 0 rfl M (fun q hq => absurd hq (Nat.not_lt_zero q)) OnlyB.rf)
      rintro v M' L' ⟨rfl, hS', hg, hf, h18, rfl⟩
      rw [show sp_again S (nI k) = (nI (sc_hr c), (S.1, st_l S, c, [], st_k S, st_h S, st_s S)) from by unfold sp_again; rw [if_pos b7, kx_nI (by omega), hc]]
      obtain ⟨y1, y2, y3, y4, ⟨x, z1, z2, z3, z4, z5⟩, y6, y8, y9⟩ := h
      exact ⟨rfl, ⟨y1.keep (fun k z => hf k (by omega)) (fun q a b => hg q (by omega) (by omega)), hS', (hf 15 (by decide)).trans y3, by rw [hg 111 (by decide) (by decide)]; exact y4, ⟨x, z1, (hf 19 (by decide)).trans z2, h18, Nat.zero_le _, fun i c hc => by simp [st_a] at hc⟩, y6.keep (hg 116 (by decide) (by decide)) (hg 117 (by decide) (by decide)), y8.keep (hf 21 (by decide)) (fun i a b => hg i (by omega) (by omega)), y9⟩, fun i hi => hg i (by omega) (by omega), rfl⟩
    · rw [bI_eq0, Option.isSome_eq_false_iff, Option.isNone_iff_eq_none] at b18
      refine ro_bipush (v := -3) dX6_again_21 (by decide) ?_
      refine ro_iret rfl dX6_again_23 ?_
      rw [show sp_again S (nI k) = (-3, S) from by unfold sp_again; rw [if_pos b7, kx_nI (by omega), b18]]
      exact ⟨rfl, h, RScr.rf.all, rfl⟩
  · rw [bI_eq0] at b7
    refine ro_iconst (v := -1) dX6_again_10 (by decide) ?_
    refine ro_iret rfl dX6_again_11 ?_
    rw [show sp_again S x = (-1, S) from if_neg (by rw [b7]; decide)]
    exact ⟨rfl, h, RScr.rf.all, rfl⟩
theorem lr_hearing {g : GT} {M : MM} {L : LL} {ln : LN} {b : Nat} {c : SC} (hL : RLn M ln) (ok : LnOK ln) (hS : ScR (M 107) (17 * 0) (ln_n ln) c) (oc : ScOK (ln_n ln) b c) (hb : b < 2 ^ 30) : ∀ (f i : Nat), i + f = ln_n ln → JW g mX6_hearingHouses 2 (Rt (some (.int (nI (mkB (hearB ln c (ln_rainAt ln (sc_hr c))) (ln_n ln))))) M L) M L 4 [some (.ref (dq_A g 102)), some (.int (nI (mkB (hearB ln c (ln_rainAt ln (sc_hr c))) i))), some (.int (nI i))] [] := by
  have a1 := ok.1
  intro f
  induction f with
  | zero =>
    intro i hi
    refine ro_iload_n dX6_hearingHouses_4 rfl rfl ?_
    refine ro_aload_n dX6_hearingHouses_5 rfl rfl ?_
    refine gf_X6_houses  in_X6_hearingHouses_X6 lk_X6_hearingHouses_93 dX6_hearingHouses_6 ?_
    rw [hL.1]
    refine ro_icmp_ge 47 dX6_hearingHouses_9 (by decide) (fun b9 => ?_) (fun b9 => ?_)
    · refine ro_iload_n dX6_hearingHouses_47 rfl rfl ?_
      refine ro_iret rfl dX6_hearingHouses_48 ?_
      exact ⟨by rw [show i = ln_n ln by omega], rfl, rfl⟩
    · exact absurd (nI_le (by omega) (by omega)) b9
  | succ f ih =>
    intro i hi
    refine ro_iload_n dX6_hearingHouses_4 rfl rfl ?_
    refine ro_aload_n dX6_hearingHouses_5 rfl rfl ?_
    refine gf_X6_houses  in_X6_hearingHouses_X6 lk_X6_hearingHouses_93 dX6_hearingHouses_6 ?_
    rw [hL.1]
    refine ro_icmp_ge 47 dX6_hearingHouses_9 (by decide) (fun b9 => ?_) (fun b9 => ?_)
    · exact absurd b9 (nI_ge (by omega) (by omega))
    · refine ro_iload_n dX6_hearingHouses_12 rfl rfl ?_
      refine ro_aload_n dX6_hearingHouses_13 rfl rfl ?_
      refine ro_iconst (v := 0) dX6_hearingHouses_14 (by decide) ?_
      refine ro_iload_n dX6_hearingHouses_15 rfl rfl ?_
      refine ro_aload_n dX6_hearingHouses_16 rfl rfl ?_
      refine ro_iconst (v := 0) dX6_hearingHouses_17 (by decide) ?_
      refine ro_callV1 ok_X6_sayingOn (cr_sayingOn (lv := 0) (by decide) hL ok hS.2.2.2.1 (by have := oc.2.2.2.2.2; omega)) ce_X6 rfl rfl gX6_hearingHouses_X6_sayingOn (Nat.le_of_ble_eq_true rfl) (Nat.le_of_ble_eq_true rfl) dX6_hearingHouses_18 ?_
      refine ro_aload_n dX6_hearingHouses_21 rfl rfl ?_
      refine ro_iconst (v := 0) dX6_hearingHouses_22 (by decide) ?_
      refine ro_callV1 ok_X6_rainOn (cr_rainOn (lv := 0) (by decide) hL ok hS.2.2.2.1 (by have := oc.2.2.2.2.2; omega)) ce_X6 rfl rfl gX6_hearingHouses_X6_rainOn (Nat.le_of_ble_eq_true rfl) (Nat.le_of_ble_eq_true rfl) dX6_hearingHouses_23 ?_
      refine ro_callV4 ok_X6_hears (cr_hears (lv := 0) (by decide) hL ok hS oc (by omega) (rainAt_le ok _)) ce_X6 rfl rfl gX6_hearingHouses_X6_hears (Nat.le_of_ble_eq_true rfl) (Nat.le_of_ble_eq_true rfl) dX6_hearingHouses_26 ?_
      refine ro_if_eq 38 dX6_hearingHouses_29 (by decide) (fun b29 => ?_) (fun b29 => ?_)
      · rw [bI_eq0] at b29
        refine ro_iconst (v := 0) dX6_hearingHouses_38 (by decide) ?_
        first
          | rw [sh_1 i (by omega)]
          | skip
        refine ro_ior dX6_hearingHouses_39 ?_
        refine ro_istore_n1 dX6_hearingHouses_40 (Nat.le_of_ble_eq_true rfl) rfl ?_
        refine ro_iincP2 dX6_hearingHouses_41 (Nat.le_of_ble_eq_true rfl) rfl ?_
        refine ro_goto 4 dX6_hearingHouses_44 (by decide) ?_
        rw [nI_1]
        have z := ih (i + 1) (by omega)
        first
          | (rw [mkB, if_pos b29, ← fa_or] at z
             exact z)
          | (rw [mkB, if_neg (by rw [b29]; decide), ← fa_or] at z
             exact z)
      · rw [bI_ne0] at b29
        refine ro_iconst (v := 1) dX6_hearingHouses_32 (by decide) ?_
        refine ro_iload_n dX6_hearingHouses_33 rfl rfl ?_
        refine ro_ishl dX6_hearingHouses_34 ?_
        refine ro_goto 39 dX6_hearingHouses_35 (by decide) ?_
        first
          | rw [sh_1 i (by omega)]
          | skip
        refine ro_ior dX6_hearingHouses_39 ?_
        refine ro_istore_n1 dX6_hearingHouses_40 (Nat.le_of_ble_eq_true rfl) rfl ?_
        refine ro_iincP2 dX6_hearingHouses_41 (Nat.le_of_ble_eq_true rfl) rfl ?_
        refine ro_goto 4 dX6_hearingHouses_44 (by decide) ?_
        rw [nI_1]
        have z := ih (i + 1) (by omega)
        first
          | (rw [mkB, if_pos b29, ← fa_or] at z
             exact z)
          | (rw [mkB, if_neg (by rw [b29]; decide), ← fa_or] at z
             exact z)
theorem cr_hearing {g : GT} {M : MM} {L : LL} {ln : LN} {b : Nat} {c : SC} (hL : RLn M ln) (ok : LnOK ln) (hS : ScR (M 107) (17 * 0) (ln_n ln) c) (oc : ScOK (ln_n ln) b c) (hb : b < 2 ^ 30) : CT g mX6_hearingHouses 2 [.ref (dq_A g 102)] M L (some (.int (nI (mkB (hearB ln c (ln_rainAt ln (sc_hr c))) (ln_n ln))))) M L := by
  refine ct_of ok_X6_hearingHouses (lv := [some (.ref (dq_A g 102)), none, none]) rfl (Nat.le_of_ble_eq_true rfl) ?_
  refine ro_iconst (v := 0) dX6_hearingHouses_0 (by decide) ?_
  refine ro_istore_n1 dX6_hearingHouses_1 (Nat.le_of_ble_eq_true rfl) rfl ?_
  refine ro_iconst (v := 0) dX6_hearingHouses_2 (by decide) ?_
  refine ro_istore_n2 dX6_hearingHouses_3 (Nat.le_of_ble_eq_true rfl) rfl ?_
  exact lr_hearing hL ok hS oc hb (ln_n ln) 0 (by omega)
theorem cr_count {g : GT} {M : MM} {L : LL} {S : ST} {b : Nat} {w : Int32} (h : RR M L S) (ok : StOK b S) : CTQ g mX6_count 3 [.ref (dq_A g 102), .int w] M L (QR M L (sp_count S w)) := by
  have hL := h.1
  have hS : ScR (M 107) (17 * 0) (ln_n (st_l S)) (st_c S) := h.2.1
  have hA := h.2.2.2.2.1
  have okl := ok.2.2.1
  have oc := ok.2.2.2.1
  have a1 := okl.1
  have hb := ok.2.2.2.2.2.2.2
  have h64 := ok.1
  obtain ⟨gk, h2g, h3g⟩ := hS.2.1
  refine ct_of ok_X6_count (lv := [some (.ref (dq_A g 102)), some (.int w)]) rfl (Nat.le_of_ble_eq_true rfl) ?_
  refine ro_iload_n dX6_count_0 rfl rfl ?_
  rcases sw11 w with hsw | rfl | rfl | rfl | rfl | rfl | rfl | rfl | rfl | rfl | rfl | rfl | rfl
  · refine ro_tableOut 141 dX6_count_1 hsw (by decide) ?_
    refine ro_bipush (v := -2) dX6_count_141 (by decide) ?_
    refine ro_iret rfl dX6_count_143 ?_
    refine ⟨?_, h, RScr.rf.all, rfl⟩
    show some (Value.int _) = some (Value.int (sp_count S _).1)
    first
      | (show some (Value.int 1) = some (Value.int (bI (decide (3 ≤ sc_dry (st_c S))))); rw [b111]; rfl)
      | (show some (Value.int 0) = some (Value.int (bI (decide (3 ≤ sc_dry (st_c S))))); rw [b111]; rfl)
      | rfl
      | (show some (Value.int (nI (orB (fun _ => true) gk _))) = some (Value.int (nI (orB (fun _ => true) _ _))); rw [orB_perm oc h3g])
      | (rw [orB_perm oc h3g]; done)
      | exact congrArg (fun q => some (Value.int (nI q))) (orB_perm oc h3g)
      | (have hn := sw11n hsw
         unfold sp_count
         dsimp only
         rw [if_neg hn.1, if_neg hn.2.1, if_neg hn.2.2.1, if_neg hn.2.2.2.1, if_neg hn.2.2.2.2.1, if_neg hn.2.2.2.2.2.1, if_neg hn.2.2.2.2.2.2.1, if_neg hn.2.2.2.2.2.2.2.1, if_neg hn.2.2.2.2.2.2.2.2.1, if_neg hn.2.2.2.2.2.2.2.2.2.1, if_neg hn.2.2.2.2.2.2.2.2.2.2.1, if_neg hn.2.2.2.2.2.2.2.2.2.2.2])
  · refine ro_tableIn 64 dX6_count_1 (by decide) (by decide) rfl (by decide) ?_
    refine ro_aload_n dX6_count_64 rfl rfl ?_
    refine gf_X6_length  in_X6_count_X6 lk_X6_count_62 dX6_count_65 ?_
    rw [h.2.2.1]
    refine ro_iret rfl dX6_count_68 ?_
    refine ⟨?_, h, RScr.rf.all, rfl⟩
    show some (Value.int _) = some (Value.int (sp_count S _).1)
    first
      | (show some (Value.int 1) = some (Value.int (bI (decide (3 ≤ sc_dry (st_c S))))); rw [b111]; rfl)
      | (show some (Value.int 0) = some (Value.int (bI (decide (3 ≤ sc_dry (st_c S))))); rw [b111]; rfl)
      | rfl
      | (show some (Value.int (nI (orB (fun _ => true) gk _))) = some (Value.int (nI (orB (fun _ => true) _ _))); rw [orB_perm oc h3g])
      | (rw [orB_perm oc h3g]; done)
      | exact congrArg (fun q => some (Value.int (nI q))) (orB_perm oc h3g)
      | (have hn := sw11n hsw
         unfold sp_count
         dsimp only
         rw [if_neg hn.1, if_neg hn.2.1, if_neg hn.2.2.1, if_neg hn.2.2.2.1, if_neg hn.2.2.2.2.1, if_neg hn.2.2.2.2.2.1, if_neg hn.2.2.2.2.2.2.1, if_neg hn.2.2.2.2.2.2.2.1, if_neg hn.2.2.2.2.2.2.2.2.1, if_neg hn.2.2.2.2.2.2.2.2.2.1, if_neg hn.2.2.2.2.2.2.2.2.2.2.1, if_neg hn.2.2.2.2.2.2.2.2.2.2.2])
  · refine ro_tableIn 69 dX6_count_1 (by decide) (by decide) rfl (by decide) ?_
    refine ro_aload_n dX6_count_69 rfl rfl ?_
    refine gf_X6_houses  in_X6_count_X6 lk_X6_count_93 dX6_count_70 ?_
    rw [hL.1]
    refine ro_iret rfl dX6_count_73 ?_
    refine ⟨?_, h, RScr.rf.all, rfl⟩
    show some (Value.int _) = some (Value.int (sp_count S _).1)
    first
      | (show some (Value.int 1) = some (Value.int (bI (decide (3 ≤ sc_dry (st_c S))))); rw [b111]; rfl)
      | (show some (Value.int 0) = some (Value.int (bI (decide (3 ≤ sc_dry (st_c S))))); rw [b111]; rfl)
      | rfl
      | (show some (Value.int (nI (orB (fun _ => true) gk _))) = some (Value.int (nI (orB (fun _ => true) _ _))); rw [orB_perm oc h3g])
      | (rw [orB_perm oc h3g]; done)
      | exact congrArg (fun q => some (Value.int (nI q))) (orB_perm oc h3g)
      | (have hn := sw11n hsw
         unfold sp_count
         dsimp only
         rw [if_neg hn.1, if_neg hn.2.1, if_neg hn.2.2.1, if_neg hn.2.2.2.1, if_neg hn.2.2.2.2.1, if_neg hn.2.2.2.2.2.1, if_neg hn.2.2.2.2.2.2.1, if_neg hn.2.2.2.2.2.2.2.1, if_neg hn.2.2.2.2.2.2.2.2.1, if_neg hn.2.2.2.2.2.2.2.2.2.1, if_neg hn.2.2.2.2.2.2.2.2.2.2.1, if_neg hn.2.2.2.2.2.2.2.2.2.2.2])
  · refine ro_tableIn 74 dX6_count_1 (by decide) (by decide) rfl (by decide) ?_
    refine ro_aload_n dX6_count_74 rfl rfl ?_
    refine gf_X6_sayings  in_X6_count_X6 lk_X6_count_96 dX6_count_75 ?_
    rw [hL.2.1]
    refine ro_iret rfl dX6_count_78 ?_
    refine ⟨?_, h, RScr.rf.all, rfl⟩
    show some (Value.int _) = some (Value.int (sp_count S _).1)
    first
      | (show some (Value.int 1) = some (Value.int (bI (decide (3 ≤ sc_dry (st_c S))))); rw [b111]; rfl)
      | (show some (Value.int 0) = some (Value.int (bI (decide (3 ≤ sc_dry (st_c S))))); rw [b111]; rfl)
      | rfl
      | (show some (Value.int (nI (orB (fun _ => true) gk _))) = some (Value.int (nI (orB (fun _ => true) _ _))); rw [orB_perm oc h3g])
      | (rw [orB_perm oc h3g]; done)
      | exact congrArg (fun q => some (Value.int (nI q))) (orB_perm oc h3g)
      | (have hn := sw11n hsw
         unfold sp_count
         dsimp only
         rw [if_neg hn.1, if_neg hn.2.1, if_neg hn.2.2.1, if_neg hn.2.2.2.1, if_neg hn.2.2.2.2.1, if_neg hn.2.2.2.2.2.1, if_neg hn.2.2.2.2.2.2.1, if_neg hn.2.2.2.2.2.2.2.1, if_neg hn.2.2.2.2.2.2.2.2.1, if_neg hn.2.2.2.2.2.2.2.2.2.1, if_neg hn.2.2.2.2.2.2.2.2.2.2.1, if_neg hn.2.2.2.2.2.2.2.2.2.2.2])
  · refine ro_tableIn 79 dX6_count_1 (by decide) (by decide) rfl (by decide) ?_
    refine ro_aload_n dX6_count_79 rfl rfl ?_
    refine gf_X6_rains  in_X6_count_X6 lk_X6_count_99 dX6_count_80 ?_
    rw [hL.2.2.1]
    refine ro_iret rfl dX6_count_83 ?_
    refine ⟨?_, h, RScr.rf.all, rfl⟩
    show some (Value.int _) = some (Value.int (sp_count S _).1)
    first
      | (show some (Value.int 1) = some (Value.int (bI (decide (3 ≤ sc_dry (st_c S))))); rw [b111]; rfl)
      | (show some (Value.int 0) = some (Value.int (bI (decide (3 ≤ sc_dry (st_c S))))); rw [b111]; rfl)
      | rfl
      | (show some (Value.int (nI (orB (fun _ => true) gk _))) = some (Value.int (nI (orB (fun _ => true) _ _))); rw [orB_perm oc h3g])
      | (rw [orB_perm oc h3g]; done)
      | exact congrArg (fun q => some (Value.int (nI q))) (orB_perm oc h3g)
      | (have hn := sw11n hsw
         unfold sp_count
         dsimp only
         rw [if_neg hn.1, if_neg hn.2.1, if_neg hn.2.2.1, if_neg hn.2.2.2.1, if_neg hn.2.2.2.2.1, if_neg hn.2.2.2.2.2.1, if_neg hn.2.2.2.2.2.2.1, if_neg hn.2.2.2.2.2.2.2.1, if_neg hn.2.2.2.2.2.2.2.2.1, if_neg hn.2.2.2.2.2.2.2.2.2.1, if_neg hn.2.2.2.2.2.2.2.2.2.2.1, if_neg hn.2.2.2.2.2.2.2.2.2.2.2])
  · refine ro_tableIn 84 dX6_count_1 (by decide) (by decide) rfl (by decide) ?_
    refine ro_aload_n dX6_count_84 rfl rfl ?_
    refine gf_X6_now  in_X6_count_X6 lk_X6_count_22 dX6_count_85 ?_
    refine ro_bipush (v := 15) dX6_count_88 (by decide) ?_
    refine ro_ai ar_107 (k := 15) rfl (by decide) dX6_count_90 ?_
    rw [show M 107 15 = nI (sc_hr (st_c S)) from h.2.1.2.2.2.1]
    refine ro_iret rfl dX6_count_91 ?_
    refine ⟨?_, h, RScr.rf.all, rfl⟩
    show some (Value.int _) = some (Value.int (sp_count S _).1)
    first
      | (show some (Value.int 1) = some (Value.int (bI (decide (3 ≤ sc_dry (st_c S))))); rw [b111]; rfl)
      | (show some (Value.int 0) = some (Value.int (bI (decide (3 ≤ sc_dry (st_c S))))); rw [b111]; rfl)
      | rfl
      | (show some (Value.int (nI (orB (fun _ => true) gk _))) = some (Value.int (nI (orB (fun _ => true) _ _))); rw [orB_perm oc h3g])
      | (rw [orB_perm oc h3g]; done)
      | exact congrArg (fun q => some (Value.int (nI q))) (orB_perm oc h3g)
      | (have hn := sw11n hsw
         unfold sp_count
         dsimp only
         rw [if_neg hn.1, if_neg hn.2.1, if_neg hn.2.2.1, if_neg hn.2.2.2.1, if_neg hn.2.2.2.2.1, if_neg hn.2.2.2.2.2.1, if_neg hn.2.2.2.2.2.2.1, if_neg hn.2.2.2.2.2.2.2.1, if_neg hn.2.2.2.2.2.2.2.2.1, if_neg hn.2.2.2.2.2.2.2.2.2.1, if_neg hn.2.2.2.2.2.2.2.2.2.2.1, if_neg hn.2.2.2.2.2.2.2.2.2.2.2])
  · refine ro_tableIn 92 dX6_count_1 (by decide) (by decide) rfl (by decide) ?_
    refine ro_aload_n dX6_count_92 rfl rfl ?_
    refine ro_iconst (v := 0) dX6_count_93 (by decide) ?_
    refine ro_callV1 ok_X6_rainOn (cr_rainOn (lv := 0) (by decide) hL okl hS.2.2.2.1 (by have := oc.2.2.2.2.2; omega)) ce_X6 rfl rfl gX6_count_X6_rainOn (Nat.le_of_ble_eq_true rfl) (Nat.le_of_ble_eq_true rfl) dX6_count_94 ?_
    refine ro_iret rfl dX6_count_97 ?_
    refine ⟨?_, h, RScr.rf.all, rfl⟩
    show some (Value.int _) = some (Value.int (sp_count S _).1)
    first
      | (show some (Value.int 1) = some (Value.int (bI (decide (3 ≤ sc_dry (st_c S))))); rw [b111]; rfl)
      | (show some (Value.int 0) = some (Value.int (bI (decide (3 ≤ sc_dry (st_c S))))); rw [b111]; rfl)
      | rfl
      | (show some (Value.int (nI (orB (fun _ => true) gk _))) = some (Value.int (nI (orB (fun _ => true) _ _))); rw [orB_perm oc h3g])
      | (rw [orB_perm oc h3g]; done)
      | exact congrArg (fun q => some (Value.int (nI q))) (orB_perm oc h3g)
      | (have hn := sw11n hsw
         unfold sp_count
         dsimp only
         rw [if_neg hn.1, if_neg hn.2.1, if_neg hn.2.2.1, if_neg hn.2.2.2.1, if_neg hn.2.2.2.2.1, if_neg hn.2.2.2.2.2.1, if_neg hn.2.2.2.2.2.2.1, if_neg hn.2.2.2.2.2.2.2.1, if_neg hn.2.2.2.2.2.2.2.2.1, if_neg hn.2.2.2.2.2.2.2.2.2.1, if_neg hn.2.2.2.2.2.2.2.2.2.2.1, if_neg hn.2.2.2.2.2.2.2.2.2.2.2])
  · refine ro_tableIn 98 dX6_count_1 (by decide) (by decide) rfl (by decide) ?_
    refine ro_aload_n dX6_count_98 rfl rfl ?_
    refine gf_X6_now  in_X6_count_X6 lk_X6_count_22 dX6_count_99 ?_
    refine ro_bipush (v := 16) dX6_count_102 (by decide) ?_
    refine ro_ai ar_107 (k := 16) rfl (by decide) dX6_count_104 ?_
    rw [show M 107 16 = nI (sc_dry (st_c S)) from h.2.1.2.2.2.2]
    refine ro_iret rfl dX6_count_105 ?_
    refine ⟨?_, h, RScr.rf.all, rfl⟩
    show some (Value.int _) = some (Value.int (sp_count S _).1)
    first
      | (show some (Value.int 1) = some (Value.int (bI (decide (3 ≤ sc_dry (st_c S))))); rw [b111]; rfl)
      | (show some (Value.int 0) = some (Value.int (bI (decide (3 ≤ sc_dry (st_c S))))); rw [b111]; rfl)
      | rfl
      | (show some (Value.int (nI (orB (fun _ => true) gk _))) = some (Value.int (nI (orB (fun _ => true) _ _))); rw [orB_perm oc h3g])
      | (rw [orB_perm oc h3g]; done)
      | exact congrArg (fun q => some (Value.int (nI q))) (orB_perm oc h3g)
      | (have hn := sw11n hsw
         unfold sp_count
         dsimp only
         rw [if_neg hn.1, if_neg hn.2.1, if_neg hn.2.2.1, if_neg hn.2.2.2.1, if_neg hn.2.2.2.2.1, if_neg hn.2.2.2.2.2.1, if_neg hn.2.2.2.2.2.2.1, if_neg hn.2.2.2.2.2.2.2.1, if_neg hn.2.2.2.2.2.2.2.2.1, if_neg hn.2.2.2.2.2.2.2.2.2.1, if_neg hn.2.2.2.2.2.2.2.2.2.2.1, if_neg hn.2.2.2.2.2.2.2.2.2.2.2])
  · refine ro_tableIn 106 dX6_count_1 (by decide) (by decide) rfl (by decide) ?_
    refine ro_aload_n dX6_count_106 rfl rfl ?_
    refine ro_iconst (v := 0) dX6_count_107 (by decide) ?_
    refine ro_callV1 ok_X6_isStrayed (cr_strayed (lv := 0) (by decide) hS.2.2.2.2 oc.2.2.2.2.1) ce_X6 rfl rfl gX6_count_X6_isStrayed (Nat.le_of_ble_eq_true rfl) (Nat.le_of_ble_eq_true rfl) dX6_count_108 ?_
    refine ro_if_eq 118 dX6_count_111 (by decide) (fun b111 => ?_) (fun b111 => ?_)
    · rw [bI_eq0] at b111
      refine ro_iconst (v := 0) dX6_count_118 (by decide) ?_
      refine ro_iret rfl dX6_count_119 ?_
      refine ⟨?_, h, RScr.rf.all, rfl⟩
      show some (Value.int _) = some (Value.int (sp_count S _).1)
      first
        | (show some (Value.int 1) = some (Value.int (bI (decide (3 ≤ sc_dry (st_c S))))); rw [b111]; rfl)
        | (show some (Value.int 0) = some (Value.int (bI (decide (3 ≤ sc_dry (st_c S))))); rw [b111]; rfl)
        | rfl
        | (show some (Value.int (nI (orB (fun _ => true) gk _))) = some (Value.int (nI (orB (fun _ => true) _ _))); rw [orB_perm oc h3g])
        | (rw [orB_perm oc h3g]; done)
        | exact congrArg (fun q => some (Value.int (nI q))) (orB_perm oc h3g)
        | (have hn := sw11n hsw
           unfold sp_count
           dsimp only
           rw [if_neg hn.1, if_neg hn.2.1, if_neg hn.2.2.1, if_neg hn.2.2.2.1, if_neg hn.2.2.2.2.1, if_neg hn.2.2.2.2.2.1, if_neg hn.2.2.2.2.2.2.1, if_neg hn.2.2.2.2.2.2.2.1, if_neg hn.2.2.2.2.2.2.2.2.1, if_neg hn.2.2.2.2.2.2.2.2.2.1, if_neg hn.2.2.2.2.2.2.2.2.2.2.1, if_neg hn.2.2.2.2.2.2.2.2.2.2.2])
    · rw [bI_ne0] at b111
      refine ro_iconst (v := 1) dX6_count_114 (by decide) ?_
      refine ro_goto 119 dX6_count_115 (by decide) ?_
      refine ro_iret rfl dX6_count_119 ?_
      refine ⟨?_, h, RScr.rf.all, rfl⟩
      show some (Value.int _) = some (Value.int (sp_count S _).1)
      first
        | (show some (Value.int 1) = some (Value.int (bI (decide (3 ≤ sc_dry (st_c S))))); rw [b111]; rfl)
        | (show some (Value.int 0) = some (Value.int (bI (decide (3 ≤ sc_dry (st_c S))))); rw [b111]; rfl)
        | rfl
        | (show some (Value.int (nI (orB (fun _ => true) gk _))) = some (Value.int (nI (orB (fun _ => true) _ _))); rw [orB_perm oc h3g])
        | (rw [orB_perm oc h3g]; done)
        | exact congrArg (fun q => some (Value.int (nI q))) (orB_perm oc h3g)
        | (have hn := sw11n hsw
           unfold sp_count
           dsimp only
           rw [if_neg hn.1, if_neg hn.2.1, if_neg hn.2.2.1, if_neg hn.2.2.2.1, if_neg hn.2.2.2.2.1, if_neg hn.2.2.2.2.2.1, if_neg hn.2.2.2.2.2.2.1, if_neg hn.2.2.2.2.2.2.2.1, if_neg hn.2.2.2.2.2.2.2.2.1, if_neg hn.2.2.2.2.2.2.2.2.2.1, if_neg hn.2.2.2.2.2.2.2.2.2.2.1, if_neg hn.2.2.2.2.2.2.2.2.2.2.2])
  · refine ro_tableIn 120 dX6_count_1 (by decide) (by decide) rfl (by decide) ?_
    refine ro_aload_n dX6_count_120 rfl rfl ?_
    refine ro_iconst (v := 0) dX6_count_121 (by decide) ?_
    refine ro_callV1 ok_X6_knownOn (cr_knownOn (lv := 0) (by decide) hL okl h2g) ce_X6 rfl rfl gX6_count_X6_knownOn (Nat.le_of_ble_eq_true rfl) (Nat.le_of_ble_eq_true rfl) dX6_count_122 ?_
    refine ro_iret rfl dX6_count_125 ?_
    refine ⟨?_, h, RScr.rf.all, rfl⟩
    show some (Value.int _) = some (Value.int (sp_count S _).1)
    first
      | (show some (Value.int 1) = some (Value.int (bI (decide (3 ≤ sc_dry (st_c S))))); rw [b111]; rfl)
      | (show some (Value.int 0) = some (Value.int (bI (decide (3 ≤ sc_dry (st_c S))))); rw [b111]; rfl)
      | rfl
      | (show some (Value.int (nI (orB (fun _ => true) gk _))) = some (Value.int (nI (orB (fun _ => true) _ _))); rw [orB_perm oc h3g])
      | (rw [orB_perm oc h3g]; done)
      | exact congrArg (fun q => some (Value.int (nI q))) (orB_perm oc h3g)
      | (have hn := sw11n hsw
         unfold sp_count
         dsimp only
         rw [if_neg hn.1, if_neg hn.2.1, if_neg hn.2.2.1, if_neg hn.2.2.2.1, if_neg hn.2.2.2.2.1, if_neg hn.2.2.2.2.2.1, if_neg hn.2.2.2.2.2.2.1, if_neg hn.2.2.2.2.2.2.2.1, if_neg hn.2.2.2.2.2.2.2.2.1, if_neg hn.2.2.2.2.2.2.2.2.2.1, if_neg hn.2.2.2.2.2.2.2.2.2.2.1, if_neg hn.2.2.2.2.2.2.2.2.2.2.2])
  · refine ro_tableIn 126 dX6_count_1 (by decide) (by decide) rfl (by decide) ?_
    refine ro_aload_n dX6_count_126 rfl rfl ?_
    refine ro_callV0 ok_X6_hearingHouses (cr_hearing hL okl hS oc (by omega)) ce_X6 rfl rfl gX6_count_X6_hearingHouses (Nat.le_of_ble_eq_true rfl) (Nat.le_of_ble_eq_true rfl) dX6_count_127 ?_
    refine ro_iret rfl dX6_count_130 ?_
    refine ⟨?_, h, RScr.rf.all, rfl⟩
    show some (Value.int _) = some (Value.int (sp_count S _).1)
    first
      | (show some (Value.int 1) = some (Value.int (bI (decide (3 ≤ sc_dry (st_c S))))); rw [b111]; rfl)
      | (show some (Value.int 0) = some (Value.int (bI (decide (3 ≤ sc_dry (st_c S))))); rw [b111]; rfl)
      | rfl
      | (show some (Value.int (nI (orB (fun _ => true) gk _))) = some (Value.int (nI (orB (fun _ => true) _ _))); rw [orB_perm oc h3g])
      | (rw [orB_perm oc h3g]; done)
      | exact congrArg (fun q => some (Value.int (nI q))) (orB_perm oc h3g)
      | (have hn := sw11n hsw
         unfold sp_count
         dsimp only
         rw [if_neg hn.1, if_neg hn.2.1, if_neg hn.2.2.1, if_neg hn.2.2.2.1, if_neg hn.2.2.2.2.1, if_neg hn.2.2.2.2.2.1, if_neg hn.2.2.2.2.2.2.1, if_neg hn.2.2.2.2.2.2.2.1, if_neg hn.2.2.2.2.2.2.2.2.1, if_neg hn.2.2.2.2.2.2.2.2.2.1, if_neg hn.2.2.2.2.2.2.2.2.2.2.1, if_neg hn.2.2.2.2.2.2.2.2.2.2.2])
  · refine ro_tableIn 131 dX6_count_1 (by decide) (by decide) rfl (by decide) ?_
    refine ro_aload_n dX6_count_131 rfl rfl ?_
    refine gf_X6_acts  in_X6_count_X6 lk_X6_count_102 dX6_count_132 ?_
    obtain ⟨x7, z1, z2, z3, z4, z5⟩ := id hA
    rw [z3]
    refine ro_iret rfl dX6_count_135 ?_
    refine ⟨?_, h, RScr.rf.all, rfl⟩
    show some (Value.int _) = some (Value.int (sp_count S _).1)
    first
      | (show some (Value.int 1) = some (Value.int (bI (decide (3 ≤ sc_dry (st_c S))))); rw [b111]; rfl)
      | (show some (Value.int 0) = some (Value.int (bI (decide (3 ≤ sc_dry (st_c S))))); rw [b111]; rfl)
      | rfl
      | (show some (Value.int (nI (orB (fun _ => true) gk _))) = some (Value.int (nI (orB (fun _ => true) _ _))); rw [orB_perm oc h3g])
      | (rw [orB_perm oc h3g]; done)
      | exact congrArg (fun q => some (Value.int (nI q))) (orB_perm oc h3g)
      | (have hn := sw11n hsw
         unfold sp_count
         dsimp only
         rw [if_neg hn.1, if_neg hn.2.1, if_neg hn.2.2.1, if_neg hn.2.2.2.1, if_neg hn.2.2.2.2.1, if_neg hn.2.2.2.2.2.1, if_neg hn.2.2.2.2.2.2.1, if_neg hn.2.2.2.2.2.2.2.1, if_neg hn.2.2.2.2.2.2.2.2.1, if_neg hn.2.2.2.2.2.2.2.2.2.1, if_neg hn.2.2.2.2.2.2.2.2.2.2.1, if_neg hn.2.2.2.2.2.2.2.2.2.2.2])
  · refine ro_tableIn 136 dX6_count_1 (by decide) (by decide) rfl (by decide) ?_
    refine ro_aload_n dX6_count_136 rfl rfl ?_
    refine gf_X6_heard  in_X6_count_X6 lk_X6_count_199 dX6_count_137 ?_
    rw [h.2.2.2.2.2.2.1.1]
    refine ro_iret rfl dX6_count_140 ?_
    refine ⟨?_, h, RScr.rf.all, rfl⟩
    show some (Value.int _) = some (Value.int (sp_count S _).1)
    first
      | (show some (Value.int 1) = some (Value.int (bI (decide (3 ≤ sc_dry (st_c S))))); rw [b111]; rfl)
      | (show some (Value.int 0) = some (Value.int (bI (decide (3 ≤ sc_dry (st_c S))))); rw [b111]; rfl)
      | rfl
      | (show some (Value.int (nI (orB (fun _ => true) gk _))) = some (Value.int (nI (orB (fun _ => true) _ _))); rw [orB_perm oc h3g])
      | (rw [orB_perm oc h3g]; done)
      | exact congrArg (fun q => some (Value.int (nI q))) (orB_perm oc h3g)
      | (have hn := sw11n hsw
         unfold sp_count
         dsimp only
         rw [if_neg hn.1, if_neg hn.2.1, if_neg hn.2.2.1, if_neg hn.2.2.2.1, if_neg hn.2.2.2.2.1, if_neg hn.2.2.2.2.2.1, if_neg hn.2.2.2.2.2.2.1, if_neg hn.2.2.2.2.2.2.2.1, if_neg hn.2.2.2.2.2.2.2.2.1, if_neg hn.2.2.2.2.2.2.2.2.2.1, if_neg hn.2.2.2.2.2.2.2.2.2.2.1, if_neg hn.2.2.2.2.2.2.2.2.2.2.2])
