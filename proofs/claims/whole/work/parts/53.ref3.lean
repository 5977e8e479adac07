theorem cr_changeOn {g : GT} {M : MM} {L : LL} {lv n i j : Nat} {c : SC} (hv : lv < 2) (hS : ScR (M 107) (17 * lv) n c) (hn : n ≤ 5) (hi : i < n) (hj : j < n) : CTQ g mX6_changeOn 0 [.ref (dq_A g 102), .int (nI lv), .int (nI i), .int (nI j)] M L (QV lv n (chgC c i j) M L (none)) := by
  obtain ⟨h1, ⟨gk, h2, h3⟩, h4, h5, h6⟩ := hS
  refine ct_of ok_X6_changeOn (lv := [some (.ref (dq_A g 102)), some (.int (nI lv)), some (.int (nI i)), some (.int (nI j)), none, none]) rfl (Nat.le_of_ble_eq_true rfl) ?_
  refine ro_bipush (v := 17) dX6_changeOn_0 (by decide) ?_
  refine ro_iload_n dX6_changeOn_2 rfl rfl ?_
  refine ro_imul dX6_changeOn_3 ?_
  refine ro_top (show _ = nI (17 * lv) from pk_mul 17 (lv)) ?_
  refine ro_istore4 dX6_changeOn_4 (Nat.le_of_ble_eq_true rfl) rfl ?_
  refine ro_aload_n dX6_changeOn_6 rfl rfl ?_
  refine gf_X6_now  in_X6_changeOn_X6 lk_X6_changeOn_22 dX6_changeOn_7 ?_
  refine ro_iload dX6_changeOn_10 rfl ?_
  refine ro_iload_n dX6_changeOn_12 rfl rfl ?_
  refine ro_iadd dX6_changeOn_13 ?_
  refine ro_top (show _ = nI (17 * lv + i) from nI_add (17 * lv) (i)) ?_
  refine ro_ai ar_107 rfl (by omega) dX6_changeOn_14 ?_
  refine ro_istore5 dX6_changeOn_15 (Nat.le_of_ble_eq_true rfl) rfl ?_
  refine ro_aload_n dX6_changeOn_17 rfl rfl ?_
  refine gf_X6_now  in_X6_changeOn_X6 lk_X6_changeOn_22 dX6_changeOn_18 ?_
  refine ro_iload dX6_changeOn_21 rfl ?_
  refine ro_iload_n dX6_changeOn_23 rfl rfl ?_
  refine ro_iadd dX6_changeOn_24 ?_
  refine ro_top (show _ = nI (17 * lv + i) from nI_add (17 * lv) (i)) ?_
  refine ro_aload_n dX6_changeOn_25 rfl rfl ?_
  refine gf_X6_now  in_X6_changeOn_X6 lk_X6_changeOn_22 dX6_changeOn_26 ?_
  refine ro_iload dX6_changeOn_29 rfl ?_
  refine ro_iload_n dX6_changeOn_31 rfl rfl ?_
  refine ro_iadd dX6_changeOn_32 ?_
  refine ro_top (show _ = nI (17 * lv + j) from nI_add (17 * lv) (j)) ?_
  refine ro_ai ar_107 rfl (by omega) dX6_changeOn_33 ?_
  refine ro_as ar_107 rfl (by omega) dX6_changeOn_34 (fun M34 e34 => ?_)
  refine ro_aload_n dX6_changeOn_35 rfl rfl ?_
  refine gf_X6_now  in_X6_changeOn_X6 lk_X6_changeOn_22 dX6_changeOn_36 ?_
  refine ro_iload dX6_changeOn_39 rfl ?_
  refine ro_iload_n dX6_changeOn_41 rfl rfl ?_
  refine ro_iadd dX6_changeOn_42 ?_
  refine ro_top (show _ = nI (17 * lv + j) from nI_add (17 * lv) (j)) ?_
  refine ro_iload dX6_changeOn_43 rfl ?_
  refine ro_as ar_107 rfl (by omega) dX6_changeOn_45 (fun M45 e45 => ?_)
  refine ro_vret rfl dX6_changeOn_46 ?_
  have r7 : M45 107 = upd (upd (M 107) (17 * lv + i) (M 107 (17 * lv + j))) (17 * lv + j) (M 107 (17 * lv + i)) := by rw [e45, va_up_self, e34, va_up_self]
  have hun : ∀ q, q < 17 * lv ∨ 17 * lv + 5 ≤ q → M45 107 q = M 107 q := fun q hq => by rw [r7, pk_un (by omega), pk_un (by omega)]
  refine ⟨rfl, ⟨fun k hk => ?_, ⟨gk, fun k hk => by rw [hun _ (by omega)]; exact h2 k hk, fun k hk => ?_⟩, fun k hk => by rw [hun _ (by omega)]; exact h4 k hk, by rw [hun _ (by omega)]; exact h5, by rw [hun _ (by omega)]; exact h6⟩, fun q hq => hun q (by omega), (OnlyB.up e34 (by decide) (by decide)).tr (OnlyB.up e45 (by decide) (by decide)), rfl⟩
  · rw [r7]
    show _ = nI (va_up (va_up (sc_who c) i (sc_who c j)) j (sc_who c i) k)
    unfold upd va_up
    by_cases z1 : k = j
    · rw [if_pos (by omega), if_pos z1]; exact h1 i (by omega)
    · rw [if_neg (by omega), if_neg z1]
      by_cases z2 : k = i
      · rw [if_pos (by omega), if_pos z2]; exact h1 j (by omega)
      · rw [if_neg (by omega), if_neg z2]; exact h1 k hk
  · show gk (va_up (va_up (sc_who c) i (sc_who c j)) j (sc_who c i) k) = va_up (va_up (sc_kn c) i (sc_kn c j)) j (sc_kn c i) k
    rw [swp_at, swp_at]
    exact h3 _ (by split; exact hi; split; exact hj; exact hk)
theorem cr_plateOn {g : GT} {M : MM} {L : LL} {lv n b i : Nat} {c : SC} (hv : lv < 2) (hS : ScR (M 107) (17 * lv) n c) (oc : ScOK n b c) (hn : n ≤ 5) (hi : i + 1 < n) : CTQ g mX6_plateOn 1 [.ref (dq_A g 102), .int (nI lv), .int (nI i)] M L (QV lv n (plaC c i) M L (none)) := by
  have hw := oc.1 (i + 1) hi
  have hS0 := hS
  obtain ⟨h1, ⟨gk, h2, h3⟩, h4, h5, h6⟩ := hS
  refine ct_of ok_X6_plateOn (lv := [some (.ref (dq_A g 102)), some (.int (nI lv)), some (.int (nI i)), none]) rfl (Nat.le_of_ble_eq_true rfl) ?_
  refine ro_bipush (v := 17) dX6_plateOn_0 (by decide) ?_
  refine ro_iload_n dX6_plateOn_2 rfl rfl ?_
  refine ro_imul dX6_plateOn_3 ?_
  refine ro_top (show _ = nI (17 * lv) from pk_mul 17 (lv)) ?_
  refine ro_istore_n3 dX6_plateOn_4 (Nat.le_of_ble_eq_true rfl) rfl ?_
  refine ro_aload_n dX6_plateOn_5 rfl rfl ?_
  refine gf_X6_now  in_X6_plateOn_X6 lk_X6_plateOn_22 dX6_plateOn_6 ?_
  refine ro_iload_n dX6_plateOn_9 rfl rfl ?_
  refine ro_iconst (v := 5) dX6_plateOn_10 (by decide) ?_
  refine ro_iadd dX6_plateOn_11 ?_
  refine ro_top (show _ = nI (17 * lv + 5) from nI_add (17 * lv) (5)) ?_
  refine ro_aload_n dX6_plateOn_12 rfl rfl ?_
  refine gf_X6_now  in_X6_plateOn_X6 lk_X6_plateOn_22 dX6_plateOn_13 ?_
  refine ro_iload_n dX6_plateOn_16 rfl rfl ?_
  refine ro_iload_n dX6_plateOn_17 rfl rfl ?_
  refine ro_iadd dX6_plateOn_18 ?_
  refine ro_top (show _ = nI (17 * lv + i) from nI_add (17 * lv) (i)) ?_
  refine ro_iconst (v := 1) dX6_plateOn_19 (by decide) ?_
  refine ro_iadd dX6_plateOn_20 ?_
  refine ro_top (show _ = nI (17 * lv + i + 1) from nI_add (17 * lv + i) (1)) ?_
  refine ro_ai ar_107 rfl (by omega) dX6_plateOn_21 ?_
  rw [show M 107 (17 * lv + i + 1) = nI (sc_who c (i + 1)) from h1 (i + 1) (by omega)]
  refine ro_iadd dX6_plateOn_22 ?_
  refine ro_top (show _ = nI (17 * lv + 5 + sc_who c (i + 1)) from nI_add (17 * lv + 5) (sc_who c (i + 1))) ?_
  refine ro_dup2 dX6_plateOn_23 rfl rfl ?_
  refine ro_ai ar_107 rfl (by omega) dX6_plateOn_24 ?_
  rw [(h2 (sc_who c (i + 1)) (by omega)).1, h3 (i + 1) hi]
  refine ro_aload_n dX6_plateOn_25 rfl rfl ?_
  refine ro_iload_n dX6_plateOn_26 rfl rfl ?_
  refine ro_iload_n dX6_plateOn_27 rfl rfl ?_
  refine ro_callV2 ok_X6_knowsAt (cr_knowsAt hv hS0 oc.1 hn (by omega)) ce_X6 rfl rfl gX6_plateOn_X6_knowsAt (Nat.le_of_ble_eq_true rfl) (Nat.le_of_ble_eq_true rfl) dX6_plateOn_28 ?_
  refine ro_ior dX6_plateOn_31 ?_
  rw [fa_or]
  refine ro_as ar_107 rfl (by omega) dX6_plateOn_32 (fun M32 e32 => ?_)
  refine ro_vret rfl dX6_plateOn_33 ?_
  have r7 : M32 107 = upd (M 107) (17 * lv + 5 + sc_who c (i + 1)) (nI (sc_kn c (i + 1) ||| sc_kn c i)) := by rw [e32, va_up_self]
  have hun : ∀ q, q < 17 * lv + 5 ∨ 17 * lv + 10 ≤ q → M32 107 q = M 107 q := fun q hq => by rw [r7, pk_un (by omega)]
  refine ⟨rfl, ⟨fun k hk => by rw [hun _ (by omega)]; exact h1 k hk, ⟨va_up gk (sc_who c (i + 1)) (sc_kn c (i + 1) ||| sc_kn c i), fun k hk => ?_, fun k hk => ?_⟩, fun k hk => by rw [hun _ (by omega)]; exact h4 k hk, by rw [hun _ (by omega)]; exact h5, by rw [hun _ (by omega)]; exact h6⟩, fun q hq => hun q (by omega), OnlyB.up e32 (by decide) (by decide), rfl⟩
  · rw [r7]
    unfold upd va_up
    by_cases z : k = sc_who c (i + 1)
    · rw [if_pos (by omega), if_pos z]; exact ⟨rfl, Nat.or_lt_two_pow (n := 6) (oc.2.2.1 _) (oc.2.2.1 _)⟩
    · rw [if_neg (by omega), if_neg z]; exact h2 k hk
  · show va_up gk (sc_who c (i + 1)) (sc_kn c (i + 1) ||| sc_kn c i) (sc_who c k) = va_up (sc_kn c) (i + 1) (sc_kn c (i + 1) ||| sc_kn c i) k
    by_cases z : k = i + 1
    · subst z; rw [va_up_self, va_up_self]
    · rw [va_up_ne _ _ z, va_up_ne _ _ (fun y => z (oc.2.1 k (i + 1) hk hi y))]; exact h3 k hk
theorem cr_change {g : GT} {M : MM} {L : LL} {S : ST} {b : Nat} {x y : Int32} (h : RR M L S) (ok : StOK b S) : CTQ g mX6_change 2 [.ref (dq_A g 102), .int x, .int y] M L (QR M L (sp_change S x y)) := by
  have hL := h.1
  have hS : ScR (M 107) (17 * 0) (ln_n (st_l S)) (st_c S) := h.2.1
  have hA := h.2.2.2.2.1
  have okl := ok.2.2.1
  have oc := ok.2.2.2.1
  have a1 := okl.1
  have hb := ok.2.2.2.2.2.2.2
  have h64 := ok.1
  refine ct_of ok_X6_change (lv := [some (.ref (dq_A g 102)), some (.int x), some (.int y)]) rfl (Nat.le_of_ble_eq_true rfl) ?_
  refine ro_aload_n dX6_change_0 rfl rfl ?_
  refine ro_iload_n dX6_change_1 rfl rfl ?_
  refine ro_callV1 ok_X6_isHouse (cr_isHouse hL okl x) ce_X6 rfl rfl gX6_change_X6_isHouse (Nat.le_of_ble_eq_true rfl) (Nat.le_of_ble_eq_true rfl) dX6_change_2 ?_
  refine ro_if_eq 16 dX6_change_5 (by decide) (fun b5 => ?_) (fun b5 => ?_)
  · rw [bI_eq0] at b5
    refine ro_iconst (v := -1) dX6_change_16 (by decide) ?_
    refine ro_iret rfl dX6_change_17 ?_
    rw [show sp_change S x y = (-1, S) from if_neg (fun z => by first | (rw [b5] at z; exact absurd z.1 (by decide)) | (rw [b13] at z; exact absurd z.2 (by decide)))]
    exact ⟨rfl, h, RScr.rf.all, rfl⟩
  · rw [bI_ne0] at b5
    refine ro_aload_n dX6_change_8 rfl rfl ?_
    refine ro_iload_n dX6_change_9 rfl rfl ?_
    refine ro_callV1 ok_X6_isHouse (cr_isHouse hL okl y) ce_X6 rfl rfl gX6_change_X6_isHouse (Nat.le_of_ble_eq_true rfl) (Nat.le_of_ble_eq_true rfl) dX6_change_10 ?_
    refine ro_if_ne 18 dX6_change_13 (by decide) (fun b13 => ?_) (fun b13 => ?_)
    · rw [bI_ne0] at b13
      obtain ⟨k, hk, rfl⟩ := hB_some (by omega) b5
      obtain ⟨j, hj, rfl⟩ := hB_some (by omega) b13
      refine ro_iload_n dX6_change_18 rfl rfl ?_
      refine ro_iload_n dX6_change_19 rfl rfl ?_
      refine ro_icmp_ne 26 dX6_change_20 (by decide) (fun b20 => ?_) (fun b20 => ?_)
      · refine ro_aload_n dX6_change_26 rfl rfl ?_
        refine ro_callV0Q ok_X6_keepAct (cr_keepAct hA h.2.1) ce_X6 rfl rfl gX6_change_X6_keepAct (Nat.le_of_ble_eq_true rfl) (Nat.le_of_ble_eq_true rfl) dX6_change_27 (fun v27 M27 L27 q27 => ?_)
        obtain ⟨rfl, hA27, ho27, hf27, rfl⟩ := q27
        have hS27 : ScR (M27 107) (17 * 0) (ln_n (st_l S)) (st_c S) := by rw [ho27 107 (by decide) (by decide)]; exact hS
        have hL27 : RLn M27 (st_l S) := hL.keep (fun k z => hf27 k (by omega) (by omega)) (fun i a b => ho27 i (by omega) (by omega))
        refine ro_aload_n dX6_change_30 rfl rfl ?_
        refine ro_iconst (v := 0) dX6_change_31 (by decide) ?_
        refine ro_iload_n dX6_change_32 rfl rfl ?_
        refine ro_iload_n dX6_change_33 rfl rfl ?_
        refine ro_callV3Q ok_X6_changeOn (cr_changeOn (lv := 0) (by decide) hS27 a1 hk hj) ce_X6 rfl rfl gX6_change_X6_changeOn (Nat.le_of_ble_eq_true rfl) (Nat.le_of_ble_eq_true rfl) dX6_change_34 (fun v34 M34 L34 q34 => ?_)
        obtain ⟨rfl, hS34, hq34, ho34, rfl⟩ := q34
        have hkj : ¬ k = j := fun z => b20 (by rw [z])
        have occ : ScOK (ln_n (st_l S)) b (chgC (st_c S) k j) := chgC_ok oc (by simp [canC, hk, hj, hkj])
        refine ro_aload_n dX6_change_37 rfl rfl ?_
        refine ro_iconst (v := 0) dX6_change_38 (by decide) ?_
        refine ro_iload_n dX6_change_39 rfl rfl ?_
        refine ro_callV2 ok_X6_knowsAt (cr_knowsAt (lv := 0) (by decide) hS34 occ.1 a1 hk) ce_X6 rfl rfl gX6_change_X6_knowsAt (Nat.le_of_ble_eq_true rfl) (Nat.le_of_ble_eq_true rfl) dX6_change_40 ?_
        refine ro_iret rfl dX6_change_43 ?_
        rw [show sp_change S (nI k) (nI j) = _ from (if_pos ⟨b5, b13⟩).trans (if_neg b20), kx_nI (by omega), kx_nI (by omega)]
        have z := h.act hA27 ho27 hf27 hS34 ho34
        refine ⟨?_, z.1, z.2, rfl⟩
        show some (Value.int (nI (va_up (va_up (sc_kn (st_c S)) k (sc_kn (st_c S) j)) j (sc_kn (st_c S) k) k))) = _
        rw [va_up_ne _ _ hkj, va_up_self]
      · refine ro_bipush (v := -2) dX6_change_23 (by decide) ?_
        refine ro_iret rfl dX6_change_25 ?_
        rw [show sp_change S (nI k) (nI j) = (-2, S) from (if_pos ⟨b5, b13⟩).trans (if_pos b20)]
        exact ⟨rfl, h, RScr.rf.all, rfl⟩
    · rw [bI_eq0] at b13
      refine ro_iconst (v := -1) dX6_change_16 (by decide) ?_
      refine ro_iret rfl dX6_change_17 ?_
      rw [show sp_change S x y = (-1, S) from if_neg (fun z => by first | (rw [b5] at z; exact absurd z.1 (by decide)) | (rw [b13] at z; exact absurd z.2 (by decide)))]
      exact ⟨rfl, h, RScr.rf.all, rfl⟩
theorem cr_plate {g : GT} {M : MM} {L : LL} {S : ST} {b : Nat} {x : Int32} (h : RR M L S) (ok : StOK b S) : CTQ g mX6_plate 2 [.ref (dq_A g 102), .int x] M L (QR M L (sp_plate S x)) := by
  have hL := h.1
  have hS : ScR (M 107) (17 * 0) (ln_n (st_l S)) (st_c S) := h.2.1
  have hA := h.2.2.2.2.1
  have okl := ok.2.2.1
  have oc := ok.2.2.2.1
  have a1 := okl.1
  have hb := ok.2.2.2.2.2.2.2
  have h64 := ok.1
  refine ct_of ok_X6_plate (lv := [some (.ref (dq_A g 102)), some (.int x)]) rfl (Nat.le_of_ble_eq_true rfl) ?_
  refine ro_aload_n dX6_plate_0 rfl rfl ?_
  refine ro_iload_n dX6_plate_1 rfl rfl ?_
  refine ro_callV1 ok_X6_isHouse (cr_isHouse hL okl x) ce_X6 rfl rfl gX6_plate_X6_isHouse (Nat.le_of_ble_eq_true rfl) (Nat.le_of_ble_eq_true rfl) dX6_plate_2 ?_
  refine ro_if_ne 10 dX6_plate_5 (by decide) (fun b5 => ?_) (fun b5 => ?_)
  · rw [bI_ne0] at b5
    obtain ⟨k, hk, rfl⟩ := hB_some (by omega) b5
    refine ro_aload_n dX6_plate_10 rfl rfl ?_
    refine ro_iload_n dX6_plate_11 rfl rfl ?_
    refine ro_iconst (v := 1) dX6_plate_12 (by decide) ?_
    refine ro_iadd dX6_plate_13 ?_
    refine ro_callV1 ok_X6_isHouse (cr_isHouse hL okl (nI k + 1)) ce_X6 rfl rfl gX6_plate_X6_isHouse (Nat.le_of_ble_eq_true rfl) (Nat.le_of_ble_eq_true rfl) dX6_plate_14 ?_
    refine ro_if_ne 23 dX6_plate_17 (by decide) (fun b17 => ?_) (fun b17 => ?_)
    · rw [nI_1, bI_ne0, hB_nI (by omega) (by omega), decide_eq_true_eq] at b17
      have hcp : canP (ln_n (st_l S)) k = true := decide_eq_true b17
      refine ro_aload_n dX6_plate_23 rfl rfl ?_
      refine ro_callV0Q ok_X6_keepAct (cr_keepAct hA h.2.1) ce_X6 rfl rfl gX6_plate_X6_keepAct (Nat.le_of_ble_eq_true rfl) (Nat.le_of_ble_eq_true rfl) dX6_plate_24 (fun v24 M24 L24 q24 => ?_)
      obtain ⟨rfl, hA24, ho24, hf24, rfl⟩ := q24
      have hS24 : ScR (M24 107) (17 * 0) (ln_n (st_l S)) (st_c S) := by rw [ho24 107 (by decide) (by decide)]; exact hS
      have hL24 : RLn M24 (st_l S) := hL.keep (fun k z => hf24 k (by omega) (by omega)) (fun i a b => ho24 i (by omega) (by omega))
      refine ro_aload_n dX6_plate_27 rfl rfl ?_
      refine ro_iconst (v := 0) dX6_plate_28 (by decide) ?_
      refine ro_iload_n dX6_plate_29 rfl rfl ?_
      refine ro_callV2Q ok_X6_plateOn (cr_plateOn (lv := 0) (by decide) hS24 oc a1 b17) ce_X6 rfl rfl gX6_plate_X6_plateOn (Nat.le_of_ble_eq_true rfl) (Nat.le_of_ble_eq_true rfl) dX6_plate_30 (fun v30 M30 L30 q30 => ?_)
      obtain ⟨rfl, hS30, hq30, ho30, rfl⟩ := q30
      refine ro_aload_n dX6_plate_33 rfl rfl ?_
      refine ro_iconst (v := 0) dX6_plate_34 (by decide) ?_
      refine ro_iload_n dX6_plate_35 rfl rfl ?_
      refine ro_iconst (v := 1) dX6_plate_36 (by decide) ?_
      refine ro_iadd dX6_plate_37 ?_
      rw [nI_1]
      refine ro_callV2 ok_X6_knowsAt (cr_knowsAt (lv := 0) (h := k + 1) (by decide) hS30 (plaC_ok oc).1 a1 b17) ce_X6 rfl rfl gX6_plate_X6_knowsAt (Nat.le_of_ble_eq_true rfl) (Nat.le_of_ble_eq_true rfl) dX6_plate_38 ?_
      refine ro_iret rfl dX6_plate_41 ?_
      rw [show sp_plate S (nI k) = _ from (if_pos b5).trans (if_pos (by rw [kx_nI (by omega)]; exact hcp)), kx_nI (by omega)]
      have z := h.act hA24 ho24 hf24 hS30 ho30
      refine ⟨?_, z.1, z.2, rfl⟩
      show some (Value.int (nI (va_up (sc_kn (st_c S)) (k + 1) _ (k + 1)))) = _
      rw [va_up_self]
    · rw [nI_1, bI_eq0, hB_nI (by omega) (by omega), decide_eq_false_iff_not] at b17
      have hcp : canP (ln_n (st_l S)) k = false := decide_eq_false b17
      refine ro_bipush (v := -3) dX6_plate_20 (by decide) ?_
      refine ro_iret rfl dX6_plate_22 ?_
      rw [show sp_plate S (nI k) = (-3, S) from (if_pos b5).trans (if_neg (by rw [kx_nI (by omega), hcp]; decide))]
      exact ⟨rfl, h, RScr.rf.all, rfl⟩
  · rw [bI_eq0] at b5
    refine ro_iconst (v := -1) dX6_plate_8 (by decide) ?_
    refine ro_iret rfl dX6_plate_9 ?_
    rw [show sp_plate S x = (-1, S) from if_neg (by rw [b5]; decide)]
    exact ⟨rfl, h, RScr.rf.all, rfl⟩
theorem lr_undo {g : GT} {L : LL} {n y : Nat} {l : List SC} {c : SC} {M0 : MM} (h1 : y < 14) (h2 : M0 102 19 = nI y) (h3 : M0 102 18 = nI l.length) (hc : ScR (M0 112) (17 * y) n c) : ∀ (f i : Nat), i + f = 17 → ∀ M : MM, (∀ k, k < i → M 107 k = M0 112 (17 * y + k)) → (∀ q, 17 ≤ q → M 107 q = M0 107 q) → OnlyB 107 107 M0 M → JW g mX6_undo 0 (fun v M' L' => v = some (.int (nI l.length)) ∧ ScR (M' 107) 0 n c ∧ (∀ q, 17 ≤ q → M' 107 q = M0 107 q) ∧ OnlyB 107 107 M0 M' ∧ L' = L) M L 36 [some (.ref (dq_A g 102)), some (.int (nI i))] [] := by
  intro f
  induction f with
  | zero =>
    intro i hi M hr hq ho
    refine ro_iload_n dX6_undo_36 rfl rfl ?_
    refine ro_bipush (v := 17) dX6_undo_37 (by decide) ?_
    refine ro_icmp_ge 68 dX6_undo_39 (by decide) (fun b39 => ?_) (fun b39 => ?_)
    · refine ro_aload_n dX6_undo_68 rfl rfl ?_
      refine gf_X6_acts  in_X6_undo_X6 lk_X6_undo_102 dX6_undo_69 ?_
      rw [ho 102 (by omega), h3]
      refine ro_iret rfl dX6_undo_72 ?_
      have e : i = 17 := by omega
      subst e
      exact ⟨rfl, hc.cong (fun k hk => by rw [Nat.zero_add]; exact hr k hk), hq, ho, rfl⟩
    · exact absurd (nI_le (a := 17) (by omega) (by omega)) b39
  | succ f ih =>
    intro i hi M hr hq ho
    refine ro_iload_n dX6_undo_36 rfl rfl ?_
    refine ro_bipush (v := 17) dX6_undo_37 (by decide) ?_
    refine ro_icmp_ge 68 dX6_undo_39 (by decide) (fun b39 => ?_) (fun b39 => ?_)
    · exact absurd b39 (nI_ge (b := 17) (by omega) (by decide))
    · refine ro_aload_n dX6_undo_42 rfl rfl ?_
      refine gf_X6_now  in_X6_undo_X6 lk_X6_undo_22 dX6_undo_43 ?_
      refine ro_iload_n dX6_undo_46 rfl rfl ?_
      refine ro_aload_n dX6_undo_47 rfl rfl ?_
      refine gf_X6_row  in_X6_undo_X6 lk_X6_undo_37 dX6_undo_48 ?_
      refine ro_bipush (v := 17) dX6_undo_51 (by decide) ?_
      refine ro_aload_n dX6_undo_53 rfl rfl ?_
      refine gf_X6_next  in_X6_undo_X6 lk_X6_undo_143 dX6_undo_54 ?_
      rw [ho 102 (by omega), h2]
      refine ro_imul dX6_undo_57 ?_
      refine ro_top (show _ = nI (17 * y) from pk_mul 17 (y)) ?_
      refine ro_iload_n dX6_undo_58 rfl rfl ?_
      refine ro_iadd dX6_undo_59 ?_
      refine ro_top (show _ = nI (17 * y + i) from nI_add (17 * y) (i)) ?_
      refine ro_ai ar_112 rfl (by omega) dX6_undo_60 ?_
      refine ro_as ar_107 rfl (by omega) dX6_undo_61 (fun M61 e61 => ?_)
      refine ro_iincP1 dX6_undo_62 (Nat.le_of_ble_eq_true rfl) rfl ?_
      refine ro_goto 36 dX6_undo_65 (by decide) ?_
      rw [nI_1]
      have r7 : M61 107 = upd (M 107) i (M 112 (17 * y + i)) := by rw [e61, va_up_self]
      refine ih (i + 1) (by omega) M61 (fun k hk => ?_) (fun q hq2 => ?_) (ho.tr (OnlyB.up e61 (by decide) (by decide)))
      · rw [r7]
        by_cases z : k = i
        · subst z; rw [pk_us, ho 112 (by omega)]
        · rw [pk_un z]; exact hr k (by omega)
      · rw [r7, pk_un (by omega)]; exact hq q hq2
theorem cr_undo {g : GT} {M : MM} {L : LL} {S : ST} {b : Nat} (h : RR M L S) (ok : StOK b S) : CTQ g mX6_undo 0 [.ref (dq_A g 102)] M L (QR M L (sp_undo S)) := by
  have hL := h.1
  have hS : ScR (M 107) (17 * 0) (ln_n (st_l S)) (st_c S) := h.2.1
  have hA := h.2.2.2.2.1
  have okl := ok.2.2.1
  have oc := ok.2.2.2.1
  have a1 := okl.1
  have hb := ok.2.2.2.2.2.2.2
  have h64 := ok.1
  refine ct_of ok_X6_undo (lv := [some (.ref (dq_A g 102)), none]) rfl (Nat.le_of_ble_eq_true rfl) ?_
  refine ro_aload_n dX6_undo_0 rfl rfl ?_
  refine gf_X6_acts  in_X6_undo_X6 lk_X6_undo_102 dX6_undo_1 ?_
  obtain ⟨x, z1, z2, z3, z4, z5⟩ := id hA
  rw [z3]
  refine ro_if_ne 10 dX6_undo_4 (by decide) (fun b4 => ?_) (fun b4 => ?_)
  · obtain ⟨c, l, hal⟩ : ∃ c l, st_a S = c :: l := by
      cases hal : st_a S with
      | nil => exact absurd (by rw [hal]; rfl) b4
      | cons c l => exact ⟨c, l, rfl⟩
    refine ro_aload_n dX6_undo_10 rfl rfl ?_
    refine ro_dup dX6_undo_11 rfl ?_
    refine gf_X6_acts  in_X6_undo_X6 lk_X6_undo_102 dX6_undo_12 ?_
    rw [z3, hal]
    refine ro_iconst (v := 1) dX6_undo_15 (by decide) ?_
    refine ro_isub dX6_undo_16 ?_
    rw [show nI (c :: l).length - 1 = nI l.length from nI_pred _]
    refine pf_X6_acts  in_X6_undo_X6 lk_X6_undo_102  dX6_undo_17 (fun M17 e17 => ?_)
    refine ro_aload_n dX6_undo_20 rfl rfl ?_
    refine ro_aload_n dX6_undo_21 rfl rfl ?_
    refine gf_X6_next  in_X6_undo_X6 lk_X6_undo_143 dX6_undo_22 ?_
    rw [show M17 102 19 = nI x from by rw [e17, va_up_self, pk_un (by decide)]; exact z2]
    refine ro_bipush (v := 13) dX6_undo_25 (by decide) ?_
    refine ro_iadd dX6_undo_27 ?_
    refine ro_top (show _ = nI (x + 13) from nI_add x 13) ?_
    refine ro_bipush (v := 14) dX6_undo_28 (by decide) ?_
    refine ro_irem dX6_undo_30 (by decide) ?_
    refine ro_top (pk_rem (d := 14) (by omega) (by decide) (by decide)) ?_
    refine pf_X6_next  in_X6_undo_X6 lk_X6_undo_143  dX6_undo_31 (fun M31 e31 => ?_)
    refine ro_iconst (v := 0) dX6_undo_34 (by decide) ?_
    refine ro_istore_n1 dX6_undo_35 (Nat.le_of_ble_eq_true rfl) rfl ?_
    have r2 : M31 102 = upd (upd (M 102) 18 (nI l.length)) 19 (nI ((x + 13) % 14)) := by rw [e31, va_up_self, e17, va_up_self]
    have rk : ∀ q, q ≠ 102 → M31 q = M q := fun q hq => by rw [e31, va_up_ne _ _ hq, e17, va_up_ne _ _ hq]
    rw [hal] at z3 z4 z5
    rw [List.length_cons] at z4
    have hc0 := z5 0 c rfl
    rw [Nat.sub_zero] at hc0
    refine JW.mono ?_ (lr_undo (l := l) (y := (x + 13) % 14) (n := ln_n (st_l S)) (c := c) (Nat.mod_lt _ (by decide)) (by rw [r2, pk_us]) (by rw [r2, pk_un (by decide), pk_us]) (by rw [rk 112 (by decide)]; exact hc0) 17 0 rfl M31 (fun k hk => absurd hk (Nat.not_lt_zero k)) (fun _ _ => rfl) OnlyB.rf)
    rintro v M' L' ⟨rfl, hS', hq', ho', rfl⟩
    rw [sp_undo_1 hal]
    have hg : ∀ i, i ≠ 102 → i ≠ 107 → M' i = M i := fun i a b => (ho' i (by omega)).trans (rk i a)
    have hr : ∀ k, k ≠ 18 → k ≠ 19 → M' 102 k = M 102 k := fun k a b => by rw [ho' 102 (by omega), r2, pk_un b, pk_un a]
    obtain ⟨y1, y2, y3, y4, y5, y6, y8, y9⟩ := h
    refine ⟨rfl, ⟨y1.keep (fun k z => hr k (by omega) (by omega)) (fun i a b => hg i (by omega) (by omega)), hS', (hr 15 (by omega) (by omega)).trans y3, by rw [hg 111 (by omega) (by omega)]; exact y4, ⟨(x + 13) % 14, Nat.mod_lt _ (by decide), by rw [ho' 102 (by omega), r2, pk_us], by rw [ho' 102 (by omega), r2, pk_un (by decide), pk_us]; rfl, by show l.length ≤ 14; omega, fun i cc hcc => ?_⟩, y6.keep (hg 116 (by omega) (by omega)) (hg 117 (by omega) (by omega)), y8.keep (hr 21 (by omega) (by omega)) (fun i a b => hg i (by omega) (by omega)), y9⟩, fun i hi => hg i (by omega) (by omega), rfl⟩
    have hil : i < l.length := (List.getElem?_eq_some_iff.mp hcc).1
    have hz := z5 (i + 1) cc (by rw [List.getElem?_cons_succ]; exact hcc)
    rw [hg 112 (by omega) (by omega), show ((x + 13) % 14 + 13 - i) % 14 = (x + 13 - (i + 1)) % 14 by omega]
    exact hz
  · have hal : st_a S = [] := List.eq_nil_of_length_eq_zero ((nI_eq (b := 0) (by omega) (by decide)).mp b4)
    refine ro_bipush (v := -3) dX6_undo_7 (by decide) ?_
    refine ro_iret rfl dX6_undo_9 ?_
    rw [sp_undo_0 hal]
    exact ⟨rfl, h, RScr.rf.all, rfl⟩
theorem cr_later {g : GT} {M : MM} {L : LL} {S : ST} {b : Nat} {x m : Int32} (h : RR M L S) (ok : StOK b S) : CTQ g mX6_later 4 [.ref (dq_A g 102), .int x, .int m] M L (QR M L (sp_later S x m)) := by
  have hL := h.1
  have hS : ScR (M 107) (17 * 0) (ln_n (st_l S)) (st_c S) := h.2.1
  have hA := h.2.2.2.2.1
  have okl := ok.2.2.1
  have oc := ok.2.2.2.1
  have a1 := okl.1
  have hb := ok.2.2.2.2.2.2.2
  have h64 := ok.1
  refine ct_of ok_X6_later (lv := [some (.ref (dq_A g 102)), some (.int x), some (.int m)]) rfl (Nat.le_of_ble_eq_true rfl) ?_
  refine ro_aload_n dX6_later_0 rfl rfl ?_
  refine ro_iload_n dX6_later_1 rfl rfl ?_
  refine ro_callV1 ok_X6_isHouse (cr_isHouse hL okl x) ce_X6 rfl rfl gX6_later_X6_isHouse (Nat.le_of_ble_eq_true rfl) (Nat.le_of_ble_eq_true rfl) dX6_later_2 ?_
  refine ro_if_ne 10 dX6_later_5 (by decide) (fun b5 => ?_) (fun b5 => ?_)
  · rw [bI_ne0] at b5
    obtain ⟨k, hk, rfl⟩ := hB_some (by omega) b5
    refine ro_iload_n dX6_later_10 rfl rfl ?_
    refine ro_i2l dX6_later_11 ?_
    refine ro_lconst (v := 0) dX6_later_12 (by decide) ?_
    refine ro_ldc2 dX6_later_13 lk_X6_later_160 ?_
    refine ro_callS3 ok_X6_in (cr_in _ _ _) gX6_later_X6_in (Nat.le_of_ble_eq_true rfl) (Nat.le_of_ble_eq_true rfl) dX6_later_16 ?_
    rw [in_hB (n := 31) rfl (by decide)]
    refine ro_if_ne 25 dX6_later_19 (by decide) (fun b19 => ?_) (fun b19 => ?_)
    · rw [bI_ne0] at b19
      obtain ⟨j, hj, rfl⟩ := hB_some (by omega) b19
      refine ro_aload_n dX6_later_25 rfl rfl ?_
      refine ro_callV0Q ok_X6_layTrial (cr_lay0) ce_X6 rfl rfl gX6_later_X6_layTrial (Nat.le_of_ble_eq_true rfl) (Nat.le_of_ble_eq_true rfl) dX6_later_26 (fun v26 M26 L26 q26 => ?_)
      obtain ⟨rfl, hr26, hq26, ho26, rfl⟩ := q26
      have hS26 : ScR (M26 107) (17 * 1) (ln_n (st_l S)) (st_c S) := hS.cong (fun k hk => by rw [show 17 * 1 + k = 17 + k from rfl, hr26 k hk, show 17 * 0 + k = k by omega])
      have hL26 := hL.k7 ho26
      have hx26 : RScr M M26 := RScr.lv1 ho26 (fun q z => hq26 q (by omega))
      refine ro_aload_n dX6_later_29 rfl rfl ?_
      refine ro_iload_n dX6_later_30 rfl rfl ?_
      refine ro_callV1Q ok_X6_goOn (cr_goOn hL26 okl hS26 oc (by omega)) ce_X6 rfl rfl gX6_later_X6_goOn (Nat.le_of_ble_eq_true rfl) (Nat.le_of_ble_eq_true rfl) dX6_later_31 (fun v31 M31 L31 q31 => ?_)
      obtain ⟨rfl, hS31, hq31, ho31, rfl⟩ := q31
      refine ro_aload_n dX6_later_34 rfl rfl ?_
      refine ro_iconst (v := 1) dX6_later_35 (by decide) ?_
      refine ro_iload_n dX6_later_36 rfl rfl ?_
      refine ro_callV2 ok_X6_knowsAt (cr_knowsAt (lv := 1) (by decide) hS31 (hrsC_ok okl oc j).1 a1 hk) ce_X6 rfl rfl gX6_later_X6_knowsAt (Nat.le_of_ble_eq_true rfl) (Nat.le_of_ble_eq_true rfl) dX6_later_37 ?_
      refine ro_iret rfl dX6_later_40 ?_
      rw [show sp_later S (nI k) (nI j) = (nI (sc_kn (hrsC (st_l S) j (st_c S)) k), S) from by unfold sp_later; rw [if_pos b5, if_neg (fun z => z.elim (nI_pos (by omega)) (nI_nlt (a := 30) (by omega) (by decide))), kx_nI (by omega), kx_nI (by omega)]]
      have hx := hx26.tr (RScr.lv1 ho31 hq31)
      exact ⟨rfl, h.scr hx rfl, hx.all, rfl⟩
    · rw [bI_eq0] at b19
      refine ro_bipush (v := -2) dX6_later_22 (by decide) ?_
      refine ro_iret rfl dX6_later_24 ?_
      rw [show sp_later S (nI k) m = (-2, S) from by
        unfold sp_later
        rw [if_pos b5, if_pos (Classical.byContradiction fun z => ?_)]
        have z1 : hB 31 m = true := by
          unfold hB
          rw [decide_eq_true]
          exact ⟨fun y => z (Or.inl y), fun y => z (Or.inr (Int32.lt_of_lt_of_le (by decide) y))⟩
        rw [b19] at z1
        cases z1]
      exact ⟨rfl, h, RScr.rf.all, rfl⟩
  · rw [bI_eq0] at b5
    refine ro_iconst (v := -1) dX6_later_8 (by decide) ?_
    refine ro_iret rfl dX6_later_9 ?_
    rw [show sp_later S x m = (-1, S) from by unfold sp_later; rw [if_neg (by rw [b5]; decide)]]
    exact ⟨rfl, h, RScr.rf.all, rfl⟩
theorem lr_first {g : GT} {L : LL} {ln : LN} {b k t : Nat} {c0 : SC} {M0 : MM} (ok : LnOK ln) (hk : k < ln_n ln) (ht : t < 6) (hb : b < 2 ^ 29) : ∀ (f i : Nat), i + f = 31 → ∀ (M : MM) (c : SC), RLn M ln → ScR (M 107) (17 * 1) (ln_n ln) c → ScOK (ln_n ln) (b + i) c → RScr M0 M → frst ln k t 31 0 c0 = frst ln k t f i c → JW g mX6_first 4 (fun v M' L' => v = some (.int (frst ln k t 31 0 c0)) ∧ RScr M0 M' ∧ L' = L) M L 23 [some (.ref (dq_A g 102)), some (.int (nI k)), some (.int (nI t)), some (.int (nI i))] [] := by
  have a1 := ok.1
  intro f
  induction f with
  | zero =>
    intro i hi M c hL hS oc ho hf
    refine ro_iload_n dX6_first_23 rfl rfl ?_
    refine ro_bipush (v := 30) dX6_first_24 (by decide) ?_
    refine ro_icmp_gt 55 dX6_first_26 (by decide) (fun b26 => ?_) (fun b26 => ?_)
    · refine ro_bipush (v := -9) dX6_first_55 (by decide) ?_
      refine ro_iret rfl dX6_first_57 ?_
      exact ⟨by rw [hf]; rfl, ho, rfl⟩
    · exact absurd (nI_lt (a := 30) (by omega) (by omega)) b26
  | succ f ih =>
    intro i hi M c hL hS oc ho hf
    refine ro_iload_n dX6_first_23 rfl rfl ?_
    refine ro_bipush (v := 30) dX6_first_24 (by decide) ?_
    refine ro_icmp_gt 55 dX6_first_26 (by decide) (fun b26 => ?_) (fun b26 => ?_)
    · exact absurd b26 (nI_nlt (a := 30) (by omega) (by decide))
    · refine ro_aload_n dX6_first_29 rfl rfl ?_
      refine ro_iconst (v := 1) dX6_first_30 (by decide) ?_
      refine ro_iload_n dX6_first_31 rfl rfl ?_
      refine ro_callV2 ok_X6_knowsAt (cr_knowsAt (lv := 1) (by decide) hS oc.1 a1 hk) ce_X6 rfl rfl gX6_first_X6_knowsAt (Nat.le_of_ble_eq_true rfl) (Nat.le_of_ble_eq_true rfl) dX6_first_32 ?_
      refine ro_iload_n dX6_first_35 rfl rfl ?_
      refine ro_callS2 ok_X6_has (cr_has (by have := oc.2.2.1 k; omega) (by omega)) gX6_first_X6_has (Nat.le_of_ble_eq_true rfl) (Nat.le_of_ble_eq_true rfl) dX6_first_36 ?_
      refine ro_if_eq 44 dX6_first_39 (by decide) (fun b39 => ?_) (fun b39 => ?_)
      · rw [bI_eq0] at b39
        refine ro_aload_n dX6_first_44 rfl rfl ?_
        refine ro_iconst (v := 1) dX6_first_45 (by decide) ?_
        refine ro_callV1Q ok_X6_goOn (cr_goOn (n := 1) hL ok hS oc (by omega)) ce_X6 rfl rfl gX6_first_X6_goOn (Nat.le_of_ble_eq_true rfl) (Nat.le_of_ble_eq_true rfl) dX6_first_46 (fun v46 M46 L46 q46 => ?_)
        obtain ⟨rfl, hS46, hq46, ho46, rfl⟩ := q46
        refine ro_iincP3 dX6_first_49 (Nat.le_of_ble_eq_true rfl) rfl ?_
        refine ro_goto 23 dX6_first_52 (by decide) ?_
        rw [nI_1]
        exact ih (i + 1) (by omega) M46 (nextC ln c) (hL.k7 ho46) hS46 (nextC_ok ok oc) (ho.tr (RScr.lv1 ho46 hq46)) (by rw [hf, frst, if_neg (by rw [b39]; decide)])
      · rw [bI_ne0] at b39
        refine ro_iload_n dX6_first_42 rfl rfl ?_
        refine ro_iret rfl dX6_first_43 ?_
        exact ⟨by rw [hf, frst, if_pos b39], ho, rfl⟩
theorem cr_first {g : GT} {M : MM} {L : LL} {S : ST} {b : Nat} {x y : Int32} (h : RR M L S) (ok : StOK b S) : CTQ g mX6_first 4 [.ref (dq_A g 102), .int x, .int y] M L (QR M L (sp_first S x y)) := by
  have hL := h.1
  have hS : ScR (M 107) (17 * 0) (ln_n (st_l S)) (st_c S) := h.2.1
  have hA := h.2.2.2.2.1
  have okl := ok.2.2.1
  have oc := ok.2.2.2.1
  have a1 := okl.1
  have hb := ok.2.2.2.2.2.2.2
  have h64 := ok.1
  refine ct_of ok_X6_first (lv := [some (.ref (dq_A g 102)), some (.int x), some (.int y), none]) rfl (Nat.le_of_ble_eq_true rfl) ?_
  refine ro_aload_n dX6_first_0 rfl rfl ?_
  refine ro_iload_n dX6_first_1 rfl rfl ?_
  refine ro_callV1 ok_X6_isHouse (cr_isHouse hL okl x) ce_X6 rfl rfl gX6_first_X6_isHouse (Nat.le_of_ble_eq_true rfl) (Nat.le_of_ble_eq_true rfl) dX6_first_2 ?_
  refine ro_if_eq 15 dX6_first_5 (by decide) (fun b5 => ?_) (fun b5 => ?_)
  · rw [bI_eq0] at b5
    refine ro_iconst (v := -1) dX6_first_15 (by decide) ?_
    refine ro_iret rfl dX6_first_16 ?_
    rw [show sp_first S x y = (-1, S) from by unfold sp_first; rw [if_neg (fun z => by first | (rw [b5] at z; exact absurd z.1 (by decide)) | (rw [b12] at z; exact absurd z.2 (by decide)))]]
    exact ⟨rfl, h, RScr.rf.all, rfl⟩
  · rw [bI_ne0] at b5
    refine ro_iload_n dX6_first_8 rfl rfl ?_
    refine ro_callS1 ok_X6_isThing (cr_isThing y) gX6_first_X6_isThing (Nat.le_of_ble_eq_true rfl) (Nat.le_of_ble_eq_true rfl) dX6_first_9 ?_
    refine ro_if_ne 17 dX6_first_12 (by decide) (fun b12 => ?_) (fun b12 => ?_)
    · rw [bI_ne0] at b12
      obtain ⟨k, hk, rfl⟩ := hB_some (by omega) b5
      obtain ⟨t, ht, rfl⟩ := hB_some (by omega) b12
      refine ro_aload_n dX6_first_17 rfl rfl ?_
      refine ro_callV0Q ok_X6_layTrial (cr_lay0) ce_X6 rfl rfl gX6_first_X6_layTrial (Nat.le_of_ble_eq_true rfl) (Nat.le_of_ble_eq_true rfl) dX6_first_18 (fun v18 M18 L18 q18 => ?_)
      obtain ⟨rfl, hr18, hq18, ho18, rfl⟩ := q18
      have hS18 : ScR (M18 107) (17 * 1) (ln_n (st_l S)) (st_c S) := hS.cong (fun k hk => by rw [show 17 * 1 + k = 17 + k from rfl, hr18 k hk, show 17 * 0 + k = k by omega])
      have hL18 := hL.k7 ho18
      have hx18 : RScr M M18 := RScr.lv1 ho18 (fun q z => hq18 q (by omega))
      refine ro_iconst (v := 0) dX6_first_21 (by decide) ?_
      refine ro_istore_n3 dX6_first_22 (Nat.le_of_ble_eq_true rfl) rfl ?_
      refine JW.mono ?_ (lr_first okl hk ht (by omega) 31 0 rfl M18 (st_c S) hL18 hS18 oc hx18 rfl)
      rintro v M' L' ⟨rfl, ho, rfl⟩
      refine ⟨?_, h.scr ho rfl, ho.all, rfl⟩
      rw [show sp_first S (nI k) (nI t) = (frst (st_l S) k t 31 0 (st_c S), S) from by unfold sp_first; rw [if_pos ⟨b5, b12⟩, kx_nI (by omega), kx_nI (by omega)]]
    · rw [bI_eq0] at b12
      refine ro_iconst (v := -1) dX6_first_15 (by decide) ?_
      refine ro_iret rfl dX6_first_16 ?_
      rw [show sp_first S x y = (-1, S) from by unfold sp_first; rw [if_neg (fun z => by first | (rw [b5] at z; exact absurd z.1 (by decide)) | (rw [b12] at z; exact absurd z.2 (by decide)))]]
      exact ⟨rfl, h, RScr.rf.all, rfl⟩
