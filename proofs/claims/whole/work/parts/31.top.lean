/-! ===== WHAT EACH CALL ANSWERS AND LEAVES (the document's words, as both systems keep them) ===== -/
noncomputable def sp_write (S : ST) (x : Int32) : Int32 × ST := if x < 0 ∨ 255 < x then (-2, S) else if 64 ≤ st_n S then (-4, S) else (nI (st_n S + 1), setT S (st_n S + 1, va_up (st_t S) (st_n S) (kx x)))
def sp_wipe (S : ST) : Int32 × ST := (nI (st_n S), setT S (0, st_t S))
noncomputable def flt (S : ST) : Int32 × PS := pscan (st_t S) (st_n S) 0 ps_0
noncomputable def sp_fault (S : ST) : Int32 × ST := ((flt S).1, S)
noncomputable def sp_lane (S : ST) : Int32 × ST := if (flt S).1 = -9 then (nI (100 * ln_n (ps_l (flt S).2) + 10 * ln_s (ps_l (flt S).2) + ln_r (ps_l (flt S).2)), (S.1, ps_l (flt S).2, sc_0, [], fun _ => none, st_h S, st_s S)) else (-3, S)
def sp_house (S : ST) (x w : Int32) : Int32 × ST := (if hB (ln_n (st_l S)) x = true then
    (if w = 0 then nI (ln_wall (st_l S) (kx x)) else if w = 1 then oI (sc_vo (st_c S) (kx x)) else if w = 2 then nI (ln_kind (st_l S) (sc_who (st_c S) (kx x))) else if w = 3 then nI (sc_kn (st_c S) (kx x)) else if w = 4 then nI (sc_who (st_c S) (kx x)) else if w = 5 then bI (hearB (st_l S) (st_c S) (ln_rainAt (st_l S) (sc_hr (st_c S))) (kx x)) else -2) else -1, S)
def sp_saying (S : ST) (x w : Int32) : Int32 × ST := (if hB (ln_s (st_l S)) x = true then (if w = 0 then nI (ln_place (st_l S) (kx x)) else if w = 1 then nI (ln_thing (st_l S) (kx x)) else if w = 2 then nI (ln_loud (st_l S) (kx x)) else -2) else -1, S)
def sp_hour (S : ST) : Int32 × ST := (nI (hourN (st_l S) (ln_rainAt (st_l S) (sc_hr (st_c S))) (st_c S)), setA S (nextC (st_l S) (st_c S)))
def sp_lower (S : ST) (x : Int32) : Int32 × ST := if hB (ln_n (st_l S)) x = true then (if canL (ln_n (st_l S)) (st_c S) (kx x) = true then (oI (sc_vo (st_c S) (kx x) - 1), setA S (lowC (st_c S) (kx x))) else (-3, S)) else (-1, S)
def sp_raise (S : ST) (x : Int32) : Int32 × ST := if hB (ln_n (st_l S)) x = true then (if canR (ln_n (st_l S)) (st_c S) (kx x) = true then (oI (sc_vo (st_c S) (kx x) + 1), setA S (raiC (st_c S) (kx x))) else (-3, S)) else (-1, S)
def sp_change (S : ST) (x y : Int32) : Int32 × ST := if hB (ln_n (st_l S)) x = true ∧ hB (ln_n (st_l S)) y = true then (if x = y then (-2, S) else (nI (sc_kn (st_c S) (kx y)), setA S (chgC (st_c S) (kx x) (kx y)))) else (-1, S)
def sp_plate (S : ST) (x : Int32) : Int32 × ST := if hB (ln_n (st_l S)) x = true then (if canP (ln_n (st_l S)) (kx x) = true then (nI (sc_kn (st_c S) (kx x + 1) ||| sc_kn (st_c S) (kx x)), setA S (plaC (st_c S) (kx x))) else (-3, S)) else (-1, S)
def sp_undo (S : ST) : Int32 × ST := match st_a S with
  | [] => (-3, S)
  | c :: l => (nI l.length, (S.1, st_l S, c, l, st_k S, st_h S, st_s S))
def sp_later (S : ST) (x m : Int32) : Int32 × ST := (if hB (ln_n (st_l S)) x = true then (if m < 0 ∨ 30 < m then -2 else nI (sc_kn (hrsC (st_l S) (kx m) (st_c S)) (kx x))) else -1, S)
theorem ct_write {g : GT} {M : MM} {L : LL} {S : ST} {b : Nat} {x : Int32} (h : RC M L S) (ok : StOK b S) : CTQ g mX5_write 0 [.ref (dq_A g 0), .int x] M L (QC M L (sp_write S x)) := by
  have hL := h.2.2.1
  have hS := h.2.2.2.1
  have hA := h.2.2.2.2.1
  have okl := ok.2.2.1
  have oc := ok.2.2.2.1
  have a1 := okl.1
  have hb := ok.2.2.2.2.2.2.2
  have h64 := ok.1
  refine ct_of ok_X5_write (lv := [some (.ref (dq_A g 0)), some (.int x)]) rfl (Nat.le_of_ble_eq_true rfl) ?_
  refine ro_iload_n dX5_write_0 rfl rfl ?_
  refine ro_if_lt 11 dX5_write_1 (by decide) (fun b1 => ?_) (fun b1 => ?_)
  · refine ro_bipush (v := -2) dX5_write_11 (by decide) ?_
    refine ro_iret rfl dX5_write_13 ?_
    rw [show sp_write S x = (-2, S) from if_pos (by first | exact Or.inl b1 | exact Or.inr (Int32.not_le.mp b8))]
    exact ⟨rfl, h, OnlySc.rf.all, rfl⟩
  · refine ro_iload_n dX5_write_4 rfl rfl ?_
    refine ro_sipush (v := 255) dX5_write_5 (by decide) ?_
    refine ro_icmp_le 14 dX5_write_8 (by decide) (fun b8 => ?_) (fun b8 => ?_)
    · obtain ⟨k, hk, rfl⟩ := nI_of2 (M := 255) (n := 255) rfl b1 b8
      refine ro_aload_n dX5_write_14 rfl rfl ?_
      refine gf_X5_letters  in_X5_write_X5 lk_X5_write_73 dX5_write_15 ?_
      rw [h.1]
      refine ro_bipush (v := 64) dX5_write_18 (by decide) ?_
      refine ro_icmp_lt 26 dX5_write_20 (by decide) (fun b20 => ?_) (fun b20 => ?_)
      · replace b20 : st_n S < 64 := (nI_ltI (b := 64) (by omega) (by decide)).mp b20
        refine ro_aload_n dX5_write_26 rfl rfl ?_
        refine gf_X5_text  in_X5_write_X5 lk_X5_write_9 dX5_write_27 ?_
        refine ro_aload_n dX5_write_30 rfl rfl ?_
        refine gf_X5_letters  in_X5_write_X5 lk_X5_write_73 dX5_write_31 ?_
        rw [h.1]
        refine ro_iload_n dX5_write_34 rfl rfl ?_
        refine ro_as ar_1 rfl (by omega) dX5_write_35 (fun M35 e35 => ?_)
        refine ro_aload_n dX5_write_36 rfl rfl ?_
        refine ro_dup dX5_write_37 rfl ?_
        refine gf_X5_letters  in_X5_write_X5 lk_X5_write_73 dX5_write_38 ?_
        rw [show M35 0 1 = nI (st_n S) by rw [e35, va_up_ne _ _ (by decide)]; exact h.1]
        refine ro_iconst (v := 1) dX5_write_41 (by decide) ?_
        refine ro_iadd dX5_write_42 ?_
        rw [nI_1]
        refine pf_X5_letters  in_X5_write_X5 lk_X5_write_73  dX5_write_43 (fun M43 e43 => ?_)
        refine ro_aload_n dX5_write_46 rfl rfl ?_
        refine gf_X5_letters  in_X5_write_X5 lk_X5_write_73 dX5_write_47 ?_
        refine ro_top (show M43 0 1 = nI (st_n S + 1) from by rw [e43, va_up_self, pk_us]) ?_
        refine ro_iret rfl dX5_write_50 ?_
        rw [show sp_write S (nI k) = _ from (if_neg (fun z => z.elim b1 (Int32.not_lt.mpr b8))).trans (if_neg (by omega)), kx_nI (by omega)]
        have ho : OnlyB 0 1 M M43 := (OnlyB.up e35 (by decide) (by decide)).tr (OnlyB.up e43 (by decide) (by decide))
        refine ⟨rfl, ⟨?_, ?_, hL.keep (fun i a b => ho i (by omega)), hS.keep (fun i a b => ho i (by omega)), hA.keep (ho 10 (by omega)) (fun i a b => ho i (by omega)), h.2.2.2.2.2.1.keep (ho 3 (by omega)) (fun i a b => ho i (by omega)), h.2.2.2.2.2.2.1.keep (fun i a b => ho i (by omega)), h.2.2.2.2.2.2.2⟩, ho.wide (by decide) (by decide), rfl⟩
        · rw [e43, va_up_self, pk_us]; rfl
        · have r1 : M43 1 = upd (M 1) (st_n S) (nI k) := by rw [e43, va_up_ne _ _ (by decide), e35, va_up_self]
          rw [r1]; exact row_add h.2.1
      · replace b20 : ¬ st_n S < 64 := fun z => b20 ((nI_ltI (b := 64) (by omega) (by decide)).mpr z)
        refine ro_bipush (v := -4) dX5_write_23 (by decide) ?_
        refine ro_iret rfl dX5_write_25 ?_
        rw [show sp_write S (nI k) = (-4, S) from (if_neg (fun z => z.elim b1 (Int32.not_lt.mpr b8))).trans (if_pos (by omega))]
        exact ⟨rfl, h, OnlySc.rf.all, rfl⟩
    · refine ro_bipush (v := -2) dX5_write_11 (by decide) ?_
      refine ro_iret rfl dX5_write_13 ?_
      rw [show sp_write S x = (-2, S) from if_pos (by first | exact Or.inl b1 | exact Or.inr (Int32.not_le.mp b8))]
      exact ⟨rfl, h, OnlySc.rf.all, rfl⟩
theorem ct_wipe {g : GT} {M : MM} {L : LL} {S : ST} {b : Nat} (h : RC M L S) (ok : StOK b S) : CTQ g mX5_wipe 0 [.ref (dq_A g 0)] M L (QC M L (sp_wipe S)) := by
  have hL := h.2.2.1
  have hS := h.2.2.2.1
  have hA := h.2.2.2.2.1
  have okl := ok.2.2.1
  have oc := ok.2.2.2.1
  have a1 := okl.1
  have hb := ok.2.2.2.2.2.2.2
  have h64 := ok.1
  refine ct_of ok_X5_wipe (lv := [some (.ref (dq_A g 0)), none]) rfl (Nat.le_of_ble_eq_true rfl) ?_
  refine ro_aload_n dX5_wipe_0 rfl rfl ?_
  refine gf_X5_letters  in_X5_wipe_X5 lk_X5_wipe_73 dX5_wipe_1 ?_
  rw [h.1]
  refine ro_istore_n1 dX5_wipe_4 (Nat.le_of_ble_eq_true rfl) rfl ?_
  refine ro_aload_n dX5_wipe_5 rfl rfl ?_
  refine ro_iconst (v := 0) dX5_wipe_6 (by decide) ?_
  refine pf_X5_letters  in_X5_wipe_X5 lk_X5_wipe_73  dX5_wipe_7 (fun M7 e7 => ?_)
  refine ro_iload_n dX5_wipe_10 rfl rfl ?_
  refine ro_iret rfl dX5_wipe_11 ?_
  have ho : OnlyB 0 0 M M7 := OnlyB.up e7 (by decide) (by decide)
  refine ⟨rfl, ⟨?_, fun j hj => absurd hj (Nat.not_lt_zero j), hL.keep (fun i a b => ho i (by omega)), hS.keep (fun i a b => ho i (by omega)), hA.keep (ho 10 (by omega)) (fun i a b => ho i (by omega)), h.2.2.2.2.2.1.keep (ho 3 (by omega)) (fun i a b => ho i (by omega)), h.2.2.2.2.2.2.1.keep (fun i a b => ho i (by omega)), h.2.2.2.2.2.2.2⟩, ho.wide (by decide) (by decide), rfl⟩
  rw [e7, va_up_self, pk_us]; rfl
theorem ct_fault {g : GT} {M : MM} {L : LL} {S : ST} {b : Nat} (h : RC M L S) (ok : StOK b S) : CTQ g mX5_fault 4 [.ref (dq_A g 0)] M L (QC M L (sp_fault S)) := by
  have hL := h.2.2.1
  have hS := h.2.2.2.1
  have hA := h.2.2.2.2.1
  have okl := ok.2.2.1
  have oc := ok.2.2.2.1
  have a1 := okl.1
  have hb := ok.2.2.2.2.2.2.2
  have h64 := ok.1
  refine ct_of ok_X5_fault (lv := [some (.ref (dq_A g 0))]) rfl (Nat.le_of_ble_eq_true rfl) ?_
  refine ro_aload_n dX5_fault_0 rfl rfl ?_
  refine gf_X5_reader  in_X5_fault_X5 lk_X5_fault_45 dX5_fault_1 ?_
  refine ro_aload_n dX5_fault_4 rfl rfl ?_
  refine gf_X5_text  in_X5_fault_X5 lk_X5_fault_9 dX5_fault_5 ?_
  refine ro_aload_n dX5_fault_8 rfl rfl ?_
  refine gf_X5_letters  in_X5_fault_X5 lk_X5_fault_73 dX5_fault_9 ?_
  rw [h.1]
  refine ro_callV2Q ok_X3_firstFault (ct_firstFault ok.1 ok.2.1 h.2.1) ce_X3 rfl rfl gX5_fault_X3_firstFault (Nat.le_of_ble_eq_true rfl) (Nat.le_of_ble_eq_true rfl) dX5_fault_12 (fun v12 M12 L12 q12 => ?_)
  obtain ⟨rfl, hL12, okl12, ho12, rfl⟩ := q12
  refine ro_iret rfl dX5_fault_15 ?_
  exact ⟨rfl, h.sc (OnlySc.rd ho12) rfl, (OnlySc.rd ho12).all, rfl⟩
theorem ct_lane {g : GT} {M : MM} {L : LL} {S : ST} {b : Nat} (h : RC M L S) (ok : StOK b S) : CTQ g mX5_lane 4 [.ref (dq_A g 0)] M L (QC M L (sp_lane S)) := by
  have hL := h.2.2.1
  have hS := h.2.2.2.1
  have hA := h.2.2.2.2.1
  have okl := ok.2.2.1
  have oc := ok.2.2.2.1
  have a1 := okl.1
  have hb := ok.2.2.2.2.2.2.2
  have h64 := ok.1
  refine ct_of ok_X5_lane (lv := [some (.ref (dq_A g 0)), none]) rfl (Nat.le_of_ble_eq_true rfl) ?_
  refine ro_aload_n dX5_lane_0 rfl rfl ?_
  refine gf_X5_reader  in_X5_lane_X5 lk_X5_lane_45 dX5_lane_1 ?_
  refine ro_aload_n dX5_lane_4 rfl rfl ?_
  refine gf_X5_text  in_X5_lane_X5 lk_X5_lane_9 dX5_lane_5 ?_
  refine ro_aload_n dX5_lane_8 rfl rfl ?_
  refine gf_X5_letters  in_X5_lane_X5 lk_X5_lane_73 dX5_lane_9 ?_
  rw [h.1]
  refine ro_callV2Q ok_X3_firstFault (ct_firstFault ok.1 ok.2.1 h.2.1) ce_X3 rfl rfl gX5_lane_X3_firstFault (Nat.le_of_ble_eq_true rfl) (Nat.le_of_ble_eq_true rfl) dX5_lane_12 (fun v12 M12 L12 q12 => ?_)
  obtain ⟨rfl, hL12, okl12, ho12, rfl⟩ := q12
  refine ro_bipush (v := -9) dX5_lane_15 (by decide) ?_
  refine ro_icmp_eq 23 dX5_lane_17 (by decide) (fun b17 => ?_) (fun b17 => ?_)
  · refine ro_aload_n dX5_lane_23 rfl rfl ?_
    refine gf_X5_told  in_X5_lane_X5 lk_X5_lane_38 dX5_lane_24 ?_
    refine ro_aload_n dX5_lane_27 rfl rfl ?_
    refine gf_X5_reader  in_X5_lane_X5 lk_X5_lane_45 dX5_lane_28 ?_
    refine gf_X3_draft  in_X5_lane_X3 lk_X5_lane_81 dX5_lane_31 ?_
    refine ro_callV1Q ok_X2_take (ct_laneTake hL12 okl12) (ce_X2 ln_16) rfl rfl gX5_lane_X2_take (Nat.le_of_ble_eq_true rfl) (Nat.le_of_ble_eq_true rfl) dX5_lane_34 (fun v34 M34 L34 q34 => ?_)
    obtain ⟨rfl, hL34, ho34, rfl⟩ := q34
    refine ro_aload_n dX5_lane_37 rfl rfl ?_
    refine gf_X5_now  in_X5_lane_X5 lk_X5_lane_52 dX5_lane_38 ?_
    refine ro_callV0Q ok_X4_begin (ct_begin sc_30) (ce_X4 sc_30) rfl rfl gX5_lane_X4_begin (Nat.le_of_ble_eq_true rfl) (Nat.le_of_ble_eq_true rfl) dX5_lane_41 (fun v41 M41 L41 q41 => ?_)
    obtain ⟨rfl, hS41, ho41, rfl⟩ := q41
    refine ro_aload_n dX5_lane_44 rfl rfl ?_
    refine gf_X5_acts  in_X5_lane_X5 lk_X5_lane_62 dX5_lane_45 ?_
    refine ro_callV0Q ok_X0_forget (ct_forget) ce_X0 rfl rfl gX5_lane_X0_forget (Nat.le_of_ble_eq_true rfl) (Nat.le_of_ble_eq_true rfl) dX5_lane_48 (fun v48 M48 L48 q48 => ?_)
    obtain ⟨rfl, hA48, ho48, rfl⟩ := q48
    refine ro_iconst (v := 0) dX5_lane_51 (by decide) ?_
    refine ro_istore_n1 dX5_lane_52 (Nat.le_of_ble_eq_true rfl) rfl ?_
    refine ro_iload_n dX5_lane_53 rfl rfl ?_
    refine ro_iconst (v := 2) dX5_lane_54 (by decide) ?_
    refine ro_icmp_ge 71 dX5_lane_55 (by decide) (fun b55 => ?_) (fun b55 => ?_)
    · exact absurd b55 (by decide)
    · refine ro_aload_n dX5_lane_58 rfl rfl ?_
      refine gf_X5_isKept  in_X5_lane_X5 lk_X5_lane_19 dX5_lane_59 ?_
      refine ro_iload_n dX5_lane_62 rfl rfl ?_
      refine ro_iconst (v := 0) dX5_lane_63 (by decide) ?_
      refine ro_bs br_3 (k := 0) (by decide) (by decide) rfl dX5_lane_64 (fun M64b e64b => ?_)
      refine ro_iincP1 dX5_lane_65 (Nat.le_of_ble_eq_true rfl) rfl ?_
      refine ro_goto 53 dX5_lane_68 (by decide) ?_
      refine ro_iload_n dX5_lane_53 rfl rfl ?_
      refine ro_iconst (v := 2) dX5_lane_54 (by decide) ?_
      refine ro_icmp_ge 71 dX5_lane_55 (by decide) (fun b55 => ?_) (fun b55 => ?_)
      · exact absurd b55 (by decide)
      · refine ro_aload_n dX5_lane_58 rfl rfl ?_
        refine gf_X5_isKept  in_X5_lane_X5 lk_X5_lane_19 dX5_lane_59 ?_
        refine ro_iload_n dX5_lane_62 rfl rfl ?_
        refine ro_iconst (v := 0) dX5_lane_63 (by decide) ?_
        refine ro_bs br_3 (k := 1) (by decide) (by decide) rfl dX5_lane_64 (fun M64 e64 => ?_)
        refine ro_iincP1 dX5_lane_65 (Nat.le_of_ble_eq_true rfl) rfl ?_
        refine ro_goto 53 dX5_lane_68 (by decide) ?_
        refine ro_iload_n dX5_lane_53 rfl rfl ?_
        refine ro_iconst (v := 2) dX5_lane_54 (by decide) ?_
        refine ro_icmp_ge 71 dX5_lane_55 (by decide) (fun b55 => ?_) (fun b55 => ?_)
        · have hq : ∀ i, i ≠ 3 → M64 i = M48 i := fun i hi => by rw [e64, va_up_ne _ _ hi, e64b, va_up_ne _ _ hi]
          have hLx : LaneR M64 16 (ps_l (flt S).2) := ((hL34.kS sc_30 ho41).keep (fun i a b => ho48 i (by omega))).keep (fun i a b => hq i (by omega))
          refine ro_bipush (v := 100) dX5_lane_71 (by decide) ?_
          refine ro_aload_n dX5_lane_73 rfl rfl ?_
          refine gf_X5_told  in_X5_lane_X5 lk_X5_lane_38 dX5_lane_74 ?_
          refine gf_X2_houses ln_16 in_X5_lane_X2 lk_X5_lane_93 dX5_lane_77 ?_
          rw [show M64 16 0 = nI (ln_n (ps_l (flt S).2)) from hLx.1]
          refine ro_imul dX5_lane_80 ?_
          refine ro_bipush (v := 10) dX5_lane_81 (by decide) ?_
          refine ro_aload_n dX5_lane_83 rfl rfl ?_
          refine gf_X5_told  in_X5_lane_X5 lk_X5_lane_38 dX5_lane_84 ?_
          refine gf_X2_sayings ln_16 in_X5_lane_X2 lk_X5_lane_96 dX5_lane_87 ?_
          rw [show M64 16 1 = nI (ln_s (ps_l (flt S).2)) from hLx.2.1]
          refine ro_imul dX5_lane_90 ?_
          refine ro_iadd dX5_lane_91 ?_
          refine ro_aload_n dX5_lane_92 rfl rfl ?_
          refine gf_X5_told  in_X5_lane_X5 lk_X5_lane_38 dX5_lane_93 ?_
          refine gf_X2_rains ln_16 in_X5_lane_X2 lk_X5_lane_99 dX5_lane_96 ?_
          rw [show M64 16 2 = nI (ln_r (ps_l (flt S).2)) from hLx.2.2.1]
          refine ro_iadd dX5_lane_99 ?_
          refine ro_iret rfl dX5_lane_100 ?_
          rw [show sp_lane S = _ from if_pos b17]
          have e3 : M64 3 = upd (upd (M48 3) 0 0) 1 0 := by rw [e64, va_up_self, e64b, va_up_self]
          have k12 := OnlySc.rd ho12
          have hk : ∀ i, i ≠ 3 → i ≠ 10 → (i < 30 ∨ 33 < i) → (i < 16 ∨ 22 < i) → ¬ (4 ≤ i ∧ i ≤ 9) → ¬ (23 ≤ i ∧ i ≤ 29) → ¬ (34 ≤ i ∧ i ≤ 37) → M64 i = M i := fun i z1 z2 z3 z4 z5 z6 z7 => by rw [hq i z1, ho48 i (by omega), ho41 i (by omega), ho34 i (by omega), k12 i z5 z6 z7]
          have hA64 : ActsR M64 [] := hA48.keep (hq 10 (by decide)) (fun i a b => hq i (by omega))
          have hS64 : SceneR M64 30 sc_0 := (hS41.keep (fun i a b => ho48 i (by omega))).keep (fun i a b => hq i (by omega))
          refine ⟨?_, ⟨?_, ?_, hLx, hS64, hA64, fun j hj => ⟨?_, fun c hc => by cases hc⟩, h.2.2.2.2.2.2.1.keep (fun i a b => hk i (by omega) (by omega) (by omega) (by omega) (by omega) (by omega) (by omega)), h.2.2.2.2.2.2.2⟩, ?_, rfl⟩
          · rw [show (100 : Int32) = nI 100 from rfl, show (10 : Int32) = nI 10 from rfl, pk_mul, pk_mul, nI_add, nI_add]
          · rw [hk 0 (by omega) (by omega) (by omega) (by omega) (by omega) (by omega) (by omega)]; exact h.1
          · rw [hk 1 (by omega) (by omega) (by omega) (by omega) (by omega) (by omega) (by omega)]; exact h.2.1
          · rw [e3]
            rcases (show j = 0 ∨ j = 1 by omega) with rfl | rfl
            · rw [pk_un (by decide), pk_us]; rfl
            · rw [pk_us]; rfl
          · intro i hi
            exact hk i (by omega) (by omega) (by omega) (by omega) (by omega) (by omega) (by omega)
        · exact absurd b55 (by decide)
  · refine ro_bipush (v := -3) dX5_lane_20 (by decide) ?_
    refine ro_iret rfl dX5_lane_22 ?_
    rw [show sp_lane S = (-3, S) from if_neg b17]
    exact ⟨rfl, h.sc (OnlySc.rd ho12) rfl, (OnlySc.rd ho12).all, rfl⟩
theorem ct_house {g : GT} {M : MM} {L : LL} {S : ST} {b : Nat} {x w : Int32} (h : RC M L S) (ok : StOK b S) : CTQ g mX5_house 4 [.ref (dq_A g 0), .int x, .int w] M L (QC M L (sp_house S x w)) := by
  have hL := h.2.2.1
  have hS := h.2.2.2.1
  have hA := h.2.2.2.2.1
  have okl := ok.2.2.1
  have oc := ok.2.2.2.1
  have a1 := okl.1
  have hb := ok.2.2.2.2.2.2.2
  have h64 := ok.1
  refine ct_of ok_X5_house (lv := [some (.ref (dq_A g 0)), some (.int x), some (.int w)]) rfl (Nat.le_of_ble_eq_true rfl) ?_
  refine ro_aload_n dX5_house_0 rfl rfl ?_
  refine gf_X5_told  in_X5_house_X5 lk_X5_house_38 dX5_house_1 ?_
  refine ro_iload_n dX5_house_4 rfl rfl ?_
  refine ro_callV1 ok_X2_hasHouse (ct_hasHouse ln_16 hL.1 x) (ce_X2 ln_16) rfl rfl gX5_house_X2_hasHouse (Nat.le_of_ble_eq_true rfl) (Nat.le_of_ble_eq_true rfl) dX5_house_5 ?_
  refine ro_if_ne 13 dX5_house_8 (by decide) (fun b8 => ?_) (fun b8 => ?_)
  · rw [bI_ne0] at b8
    obtain ⟨k, hk, rfl⟩ := hB_some (by omega) b8
    refine ro_iload_n dX5_house_13 rfl rfl ?_
    rcases sw5 w with hsw | rfl | rfl | rfl | rfl | rfl | rfl
    · refine ro_tableOut 113 dX5_house_14 hsw (by decide) ?_
      refine ro_bipush (v := -2) dX5_house_113 (by decide) ?_
      refine ro_iret rfl dX5_house_115 ?_
      refine ⟨?_, h, OnlySc.rf.all, rfl⟩
      show some (Value.int _) = some (Value.int (sp_house S _ _).1)
      unfold sp_house
      dsimp only
      first
        | (rw [if_neg (by rw [b8]; decide)]; done)
        | (rw [if_pos b8, kx_nI (by omega)]; rfl)
        | (rw [if_pos b8, if_neg (sw5n hsw).1, if_neg (sw5n hsw).2.1, if_neg (sw5n hsw).2.2.1, if_neg (sw5n hsw).2.2.2.1, if_neg (sw5n hsw).2.2.2.2.1, if_neg (sw5n hsw).2.2.2.2.2]; done)
    · refine ro_tableIn 52 dX5_house_14 (by decide) (by decide) rfl (by decide) ?_
      refine ro_aload_n dX5_house_52 rfl rfl ?_
      refine gf_X5_told  in_X5_house_X5 lk_X5_house_38 dX5_house_53 ?_
      refine gf_X2_wall ln_16 in_X5_house_X2 lk_X5_house_106 dX5_house_56 ?_
      refine ro_iload_n dX5_house_59 rfl rfl ?_
      refine ro_ai (ar_l1 ln_16) rfl (by omega) dX5_house_60 ?_
      rw [hL.2.2.2.1 k hk]
      refine ro_iret rfl dX5_house_61 ?_
      refine ⟨?_, h, OnlySc.rf.all, rfl⟩
      show some (Value.int _) = some (Value.int (sp_house S _ _).1)
      unfold sp_house
      dsimp only
      first
        | (rw [if_neg (by rw [b8]; decide)]; done)
        | (rw [if_pos b8, kx_nI (by omega)]; rfl)
        | (rw [if_pos b8, if_neg (sw5n hsw).1, if_neg (sw5n hsw).2.1, if_neg (sw5n hsw).2.2.1, if_neg (sw5n hsw).2.2.2.1, if_neg (sw5n hsw).2.2.2.2.1, if_neg (sw5n hsw).2.2.2.2.2]; done)
    · refine ro_tableIn 62 dX5_house_14 (by decide) (by decide) rfl (by decide) ?_
      refine ro_aload_n dX5_house_62 rfl rfl ?_
      refine gf_X5_now  in_X5_house_X5 lk_X5_house_52 dX5_house_63 ?_
      refine gf_X4_voice sc_30 in_X5_house_X4 lk_X5_house_109 dX5_house_66 ?_
      refine ro_iload_n dX5_house_69 rfl rfl ?_
      refine ro_ai (ar_s3 sc_30) rfl (by omega) dX5_house_70 ?_
      rw [hS.2.2.1 k (by omega)]
      refine ro_iret rfl dX5_house_71 ?_
      refine ⟨?_, h, OnlySc.rf.all, rfl⟩
      show some (Value.int _) = some (Value.int (sp_house S _ _).1)
      unfold sp_house
      dsimp only
      first
        | (rw [if_neg (by rw [b8]; decide)]; done)
        | (rw [if_pos b8, kx_nI (by omega)]; rfl)
        | (rw [if_pos b8, if_neg (sw5n hsw).1, if_neg (sw5n hsw).2.1, if_neg (sw5n hsw).2.2.1, if_neg (sw5n hsw).2.2.2.1, if_neg (sw5n hsw).2.2.2.2.1, if_neg (sw5n hsw).2.2.2.2.2]; done)
    · refine ro_tableIn 72 dX5_house_14 (by decide) (by decide) rfl (by decide) ?_
      refine ro_aload_n dX5_house_72 rfl rfl ?_
      refine gf_X5_now  in_X5_house_X5 lk_X5_house_52 dX5_house_73 ?_
      refine ro_iload_n dX5_house_76 rfl rfl ?_
      refine ro_callV1 ok_X4_kindAt (ct_kindAt sc_30 hL okl hS oc (by omega) hk) (ce_X4 sc_30) rfl rfl gX5_house_X4_kindAt (Nat.le_of_ble_eq_true rfl) (Nat.le_of_ble_eq_true rfl) dX5_house_77 ?_
      refine ro_iret rfl dX5_house_80 ?_
      refine ⟨?_, h, OnlySc.rf.all, rfl⟩
      show some (Value.int _) = some (Value.int (sp_house S _ _).1)
      unfold sp_house
      dsimp only
      first
        | (rw [if_neg (by rw [b8]; decide)]; done)
        | (rw [if_pos b8, kx_nI (by omega)]; rfl)
        | (rw [if_pos b8, if_neg (sw5n hsw).1, if_neg (sw5n hsw).2.1, if_neg (sw5n hsw).2.2.1, if_neg (sw5n hsw).2.2.2.1, if_neg (sw5n hsw).2.2.2.2.1, if_neg (sw5n hsw).2.2.2.2.2]; done)
    · refine ro_tableIn 81 dX5_house_14 (by decide) (by decide) rfl (by decide) ?_
      refine ro_aload_n dX5_house_81 rfl rfl ?_
      refine gf_X5_now  in_X5_house_X5 lk_X5_house_52 dX5_house_82 ?_
      refine gf_X4_knows sc_30 in_X5_house_X4 lk_X5_house_116 dX5_house_85 ?_
      refine ro_iload_n dX5_house_88 rfl rfl ?_
      refine ro_ai (ar_s2 sc_30) rfl (by omega) dX5_house_89 ?_
      rw [hS.2.1 k (by omega)]
      refine ro_iret rfl dX5_house_90 ?_
      refine ⟨?_, h, OnlySc.rf.all, rfl⟩
      show some (Value.int _) = some (Value.int (sp_house S _ _).1)
      unfold sp_house
      dsimp only
      first
        | (rw [if_neg (by rw [b8]; decide)]; done)
        | (rw [if_pos b8, kx_nI (by omega)]; rfl)
        | (rw [if_pos b8, if_neg (sw5n hsw).1, if_neg (sw5n hsw).2.1, if_neg (sw5n hsw).2.2.1, if_neg (sw5n hsw).2.2.2.1, if_neg (sw5n hsw).2.2.2.2.1, if_neg (sw5n hsw).2.2.2.2.2]; done)
    · refine ro_tableIn 91 dX5_house_14 (by decide) (by decide) rfl (by decide) ?_
      refine ro_aload_n dX5_house_91 rfl rfl ?_
      refine gf_X5_now  in_X5_house_X5 lk_X5_house_52 dX5_house_92 ?_
      refine gf_X4_hearer sc_30 in_X5_house_X4 lk_X5_house_119 dX5_house_95 ?_
      refine ro_iload_n dX5_house_98 rfl rfl ?_
      refine ro_ai (ar_s1 sc_30) rfl (by omega) dX5_house_99 ?_
      rw [hS.1 k (by omega)]
      refine ro_iret rfl dX5_house_100 ?_
      refine ⟨?_, h, OnlySc.rf.all, rfl⟩
      show some (Value.int _) = some (Value.int (sp_house S _ _).1)
      unfold sp_house
      dsimp only
      first
        | (rw [if_neg (by rw [b8]; decide)]; done)
        | (rw [if_pos b8, kx_nI (by omega)]; rfl)
        | (rw [if_pos b8, if_neg (sw5n hsw).1, if_neg (sw5n hsw).2.1, if_neg (sw5n hsw).2.2.1, if_neg (sw5n hsw).2.2.2.1, if_neg (sw5n hsw).2.2.2.2.1, if_neg (sw5n hsw).2.2.2.2.2]; done)
    · refine ro_tableIn 101 dX5_house_14 (by decide) (by decide) rfl (by decide) ?_
      refine ro_aload_n dX5_house_101 rfl rfl ?_
      refine gf_X5_now  in_X5_house_X5 lk_X5_house_52 dX5_house_102 ?_
      refine ro_callV0 ok_X4_housesThatHear (ct_hearNow sc_30 hL okl hS oc (by omega)) (ce_X4 sc_30) rfl rfl gX5_house_X4_housesThatHear (Nat.le_of_ble_eq_true rfl) (Nat.le_of_ble_eq_true rfl) dX5_house_105 ?_
      refine ro_iload_n dX5_house_108 rfl rfl ?_
      refine ro_ishr dX5_house_109 ?_
      refine ro_iconst (v := 1) dX5_house_110 (by decide) ?_
      refine ro_iand dX5_house_111 ?_
      rw [bt_at (Nat.lt_of_lt_of_le (mkB_lt _ _) (Nat.le_trans (Nat.pow_le_pow_right (by decide) a1) (by decide))) (by omega), mkB_bit, decide_eq_true hk, Bool.true_and]
      refine ro_iret rfl dX5_house_112 ?_
      refine ⟨?_, h, OnlySc.rf.all, rfl⟩
      show some (Value.int _) = some (Value.int (sp_house S _ _).1)
      unfold sp_house
      dsimp only
      first
        | (rw [if_neg (by rw [b8]; decide)]; done)
        | (rw [if_pos b8, kx_nI (by omega)]; rfl)
        | (rw [if_pos b8, if_neg (sw5n hsw).1, if_neg (sw5n hsw).2.1, if_neg (sw5n hsw).2.2.1, if_neg (sw5n hsw).2.2.2.1, if_neg (sw5n hsw).2.2.2.2.1, if_neg (sw5n hsw).2.2.2.2.2]; done)
  · rw [bI_eq0] at b8
    refine ro_iconst (v := -1) dX5_house_11 (by decide) ?_
    refine ro_iret rfl dX5_house_12 ?_
    refine ⟨?_, h, OnlySc.rf.all, rfl⟩
    show some (Value.int _) = some (Value.int (sp_house S _ _).1)
    unfold sp_house
    dsimp only
    first
      | (rw [if_neg (by rw [b8]; decide)]; done)
      | (rw [if_pos b8, kx_nI (by omega)]; rfl)
      | (rw [if_pos b8, if_neg (sw5n hsw).1, if_neg (sw5n hsw).2.1, if_neg (sw5n hsw).2.2.1, if_neg (sw5n hsw).2.2.2.1, if_neg (sw5n hsw).2.2.2.2.1, if_neg (sw5n hsw).2.2.2.2.2]; done)
theorem ct_saying {g : GT} {M : MM} {L : LL} {S : ST} {b : Nat} {x w : Int32} (h : RC M L S) (ok : StOK b S) : CTQ g mX5_saying 1 [.ref (dq_A g 0), .int x, .int w] M L (QC M L (sp_saying S x w)) := by
  have hL := h.2.2.1
  have hS := h.2.2.2.1
  have hA := h.2.2.2.2.1
  have okl := ok.2.2.1
  have oc := ok.2.2.2.1
  have a1 := okl.1
  have hb := ok.2.2.2.2.2.2.2
  have h64 := ok.1
  have h8s := okl.2.1
  refine ct_of ok_X5_saying (lv := [some (.ref (dq_A g 0)), some (.int x), some (.int w)]) rfl (Nat.le_of_ble_eq_true rfl) ?_
  refine ro_aload_n dX5_saying_0 rfl rfl ?_
  refine gf_X5_told  in_X5_saying_X5 lk_X5_saying_38 dX5_saying_1 ?_
  refine ro_iload_n dX5_saying_4 rfl rfl ?_
  refine ro_callV1 ok_X2_hasSaying (ct_hasSaying ln_16 hL.2.1 x) (ce_X2 ln_16) rfl rfl gX5_saying_X2_hasSaying (Nat.le_of_ble_eq_true rfl) (Nat.le_of_ble_eq_true rfl) dX5_saying_5 ?_
  refine ro_if_ne 13 dX5_saying_8 (by decide) (fun b8 => ?_) (fun b8 => ?_)
  · rw [bI_ne0] at b8
    obtain ⟨k, hk, rfl⟩ := hB_some (by omega) b8
    refine ro_iload_n dX5_saying_13 rfl rfl ?_
    rcases sw2 w with hsw | rfl | rfl | rfl
    · refine ro_tableOut 70 dX5_saying_14 hsw (by decide) ?_
      refine ro_bipush (v := -2) dX5_saying_70 (by decide) ?_
      refine ro_iret rfl dX5_saying_72 ?_
      refine ⟨?_, h, OnlySc.rf.all, rfl⟩
      show some (Value.int _) = some (Value.int (sp_saying S _ _).1)
      unfold sp_saying
      dsimp only
      first
        | (rw [if_neg (by rw [b8]; decide)]; done)
        | (rw [if_pos b8, kx_nI (by omega)]; rfl)
        | (rw [if_pos b8, if_neg (sw2n hsw).1, if_neg (sw2n hsw).2.1, if_neg (sw2n hsw).2.2]; done)
    · refine ro_tableIn 40 dX5_saying_14 (by decide) (by decide) rfl (by decide) ?_
      refine ro_aload_n dX5_saying_40 rfl rfl ?_
      refine gf_X5_told  in_X5_saying_X5 lk_X5_saying_38 dX5_saying_41 ?_
      refine gf_X2_place ln_16 in_X5_saying_X2 lk_X5_saying_129 dX5_saying_44 ?_
      refine ro_iload_n dX5_saying_47 rfl rfl ?_
      refine ro_ai (ar_l3 ln_16) rfl (by omega) dX5_saying_48 ?_
      rw [hL.2.2.2.2.2.1 k hk]
      refine ro_iret rfl dX5_saying_49 ?_
      refine ⟨?_, h, OnlySc.rf.all, rfl⟩
      show some (Value.int _) = some (Value.int (sp_saying S _ _).1)
      unfold sp_saying
      dsimp only
      first
        | (rw [if_neg (by rw [b8]; decide)]; done)
        | (rw [if_pos b8, kx_nI (by omega)]; rfl)
        | (rw [if_pos b8, if_neg (sw2n hsw).1, if_neg (sw2n hsw).2.1, if_neg (sw2n hsw).2.2]; done)
    · refine ro_tableIn 50 dX5_saying_14 (by decide) (by decide) rfl (by decide) ?_
      refine ro_aload_n dX5_saying_50 rfl rfl ?_
      refine gf_X5_told  in_X5_saying_X5 lk_X5_saying_38 dX5_saying_51 ?_
      refine gf_X2_thing ln_16 in_X5_saying_X2 lk_X5_saying_132 dX5_saying_54 ?_
      refine ro_iload_n dX5_saying_57 rfl rfl ?_
      refine ro_ai (ar_l4 ln_16) rfl (by omega) dX5_saying_58 ?_
      rw [hL.2.2.2.2.2.2.1 k hk]
      refine ro_iret rfl dX5_saying_59 ?_
      refine ⟨?_, h, OnlySc.rf.all, rfl⟩
      show some (Value.int _) = some (Value.int (sp_saying S _ _).1)
      unfold sp_saying
      dsimp only
      first
        | (rw [if_neg (by rw [b8]; decide)]; done)
        | (rw [if_pos b8, kx_nI (by omega)]; rfl)
        | (rw [if_pos b8, if_neg (sw2n hsw).1, if_neg (sw2n hsw).2.1, if_neg (sw2n hsw).2.2]; done)
    · refine ro_tableIn 60 dX5_saying_14 (by decide) (by decide) rfl (by decide) ?_
      refine ro_aload_n dX5_saying_60 rfl rfl ?_
      refine gf_X5_told  in_X5_saying_X5 lk_X5_saying_38 dX5_saying_61 ?_
      refine gf_X2_loud ln_16 in_X5_saying_X2 lk_X5_saying_135 dX5_saying_64 ?_
      refine ro_iload_n dX5_saying_67 rfl rfl ?_
      refine ro_ai (ar_l5 ln_16) rfl (by omega) dX5_saying_68 ?_
      rw [hL.2.2.2.2.2.2.2.1 k hk]
      refine ro_iret rfl dX5_saying_69 ?_
      refine ⟨?_, h, OnlySc.rf.all, rfl⟩
      show some (Value.int _) = some (Value.int (sp_saying S _ _).1)
      unfold sp_saying
      dsimp only
      first
        | (rw [if_neg (by rw [b8]; decide)]; done)
        | (rw [if_pos b8, kx_nI (by omega)]; rfl)
        | (rw [if_pos b8, if_neg (sw2n hsw).1, if_neg (sw2n hsw).2.1, if_neg (sw2n hsw).2.2]; done)
  · rw [bI_eq0] at b8
    refine ro_iconst (v := -1) dX5_saying_11 (by decide) ?_
    refine ro_iret rfl dX5_saying_12 ?_
    refine ⟨?_, h, OnlySc.rf.all, rfl⟩
    show some (Value.int _) = some (Value.int (sp_saying S _ _).1)
    unfold sp_saying
    dsimp only
    first
      | (rw [if_neg (by rw [b8]; decide)]; done)
      | (rw [if_pos b8, kx_nI (by omega)]; rfl)
      | (rw [if_pos b8, if_neg (sw2n hsw).1, if_neg (sw2n hsw).2.1, if_neg (sw2n hsw).2.2]; done)
theorem ct_hour {g : GT} {M : MM} {L : LL} {S : ST} {b : Nat} (h : RC M L S) (ok : StOK b S) : CTQ g mX5_hour 5 [.ref (dq_A g 0)] M L (QC M L (sp_hour S)) := by
  have hL := h.2.2.1
  have hS := h.2.2.2.1
  have hA := h.2.2.2.2.1
  have okl := ok.2.2.1
  have oc := ok.2.2.2.1
  have a1 := okl.1
  have hb := ok.2.2.2.2.2.2.2
  have h64 := ok.1
  refine ct_of ok_X5_hour (lv := [some (.ref (dq_A g 0))]) rfl (Nat.le_of_ble_eq_true rfl) ?_
  refine ro_aload_n dX5_hour_0 rfl rfl ?_
  refine gf_X5_acts  in_X5_hour_X5 lk_X5_hour_62 dX5_hour_1 ?_
  refine ro_aload_n dX5_hour_4 rfl rfl ?_
  refine gf_X5_now  in_X5_hour_X5 lk_X5_hour_52 dX5_hour_5 ?_
  refine ro_callV1Q ok_X0_note (ct_note hA hS) ce_X0 rfl rfl gX5_hour_X0_note (Nat.le_of_ble_eq_true rfl) (Nat.le_of_ble_eq_true rfl) dX5_hour_8 (fun v8 M8 L8 q8 => ?_)
  obtain ⟨rfl, hA8, ho8, rfl⟩ := q8
  have hL8 : LaneR M8 16 (st_l S) := hL.keep (fun i a b => ho8 i (by omega) (by omega))
  have hS8 : SceneR M8 30 (st_c S) := hS.keep (fun i a b => ho8 i (by omega) (by omega))
  refine ro_aload_n dX5_hour_11 rfl rfl ?_
  refine gf_X5_now  in_X5_hour_X5 lk_X5_hour_52 dX5_hour_12 ?_
  refine ro_callV0Q ok_X4_passHour (ct_passHour sc_30 hL8 okl hS8 oc (by omega)) (ce_X4 sc_30) rfl rfl gX5_hour_X4_passHour (Nat.le_of_ble_eq_true rfl) (Nat.le_of_ble_eq_true rfl) dX5_hour_15 (fun v15 M15 L15 q15 => ?_)
  obtain ⟨rfl, hS15, ho15, rfl⟩ := q15
  refine ro_iret rfl dX5_hour_18 ?_
  have hk2 : ∀ i, i ≠ 10 → (i < 30 ∨ 33 < i) → (i < 38 ∨ 93 < i) → M15 i = M i := fun i z1 z2 z3 => (ho15 i z2).trans (ho8 i z1 z3)
  have hAx : ActsR M15 ((st_c S :: st_a S).take 14) := hA8.keep (ho15 10 (by omega)) (fun i a b => ho15 i (by omega))
  exact ⟨rfl, h.act hS15 hAx hk2, fun i hi => hk2 i (by omega) (by omega) (by omega), rfl⟩
theorem ct_lower {g : GT} {M : MM} {L : LL} {S : ST} {b : Nat} {x : Int32} (h : RC M L S) (ok : StOK b S) : CTQ g mX5_lower 3 [.ref (dq_A g 0), .int x] M L (QC M L (sp_lower S x)) := by
  have hL := h.2.2.1
  have hS := h.2.2.2.1
  have hA := h.2.2.2.2.1
  have okl := ok.2.2.1
  have oc := ok.2.2.2.1
  have a1 := okl.1
  have hb := ok.2.2.2.2.2.2.2
  have h64 := ok.1
  refine ct_of ok_X5_lower (lv := [some (.ref (dq_A g 0)), some (.int x)]) rfl (Nat.le_of_ble_eq_true rfl) ?_
  refine ro_aload_n dX5_lower_0 rfl rfl ?_
  refine gf_X5_told  in_X5_lower_X5 lk_X5_lower_38 dX5_lower_1 ?_
  refine ro_iload_n dX5_lower_4 rfl rfl ?_
  refine ro_callV1 ok_X2_hasHouse (ct_hasHouse ln_16 hL.1 x) (ce_X2 ln_16) rfl rfl gX5_lower_X2_hasHouse (Nat.le_of_ble_eq_true rfl) (Nat.le_of_ble_eq_true rfl) dX5_lower_5 ?_
  refine ro_if_ne 13 dX5_lower_8 (by decide) (fun b8 => ?_) (fun b8 => ?_)
  · rw [bI_ne0] at b8
    obtain ⟨k, hk, rfl⟩ := hB_some (by omega) b8
    refine ro_aload_n dX5_lower_13 rfl rfl ?_
    refine gf_X5_now  in_X5_lower_X5 lk_X5_lower_52 dX5_lower_14 ?_
    refine ro_iload_n dX5_lower_17 rfl rfl ?_
    refine ro_callV1 ok_X4_canBeLowered (ct_canL sc_30 hL okl hS oc (by omega) (by omega)) (ce_X4 sc_30) rfl rfl gX5_lower_X4_canBeLowered (Nat.le_of_ble_eq_true rfl) (Nat.le_of_ble_eq_true rfl) dX5_lower_18 ?_
    refine ro_if_ne 27 dX5_lower_21 (by decide) (fun b21 => ?_) (fun b21 => ?_)
    · rw [bI_ne0] at b21
      refine ro_aload_n dX5_lower_27 rfl rfl ?_
      refine gf_X5_acts  in_X5_lower_X5 lk_X5_lower_62 dX5_lower_28 ?_
      refine ro_aload_n dX5_lower_31 rfl rfl ?_
      refine gf_X5_now  in_X5_lower_X5 lk_X5_lower_52 dX5_lower_32 ?_
      refine ro_callV1Q ok_X0_note (ct_note hA hS) ce_X0 rfl rfl gX5_lower_X0_note (Nat.le_of_ble_eq_true rfl) (Nat.le_of_ble_eq_true rfl) dX5_lower_35 (fun v35 M35 L35 q35 => ?_)
      obtain ⟨rfl, hA35, ho35, rfl⟩ := q35
      have hL35 : LaneR M35 16 (st_l S) := hL.keep (fun i a b => ho35 i (by omega) (by omega))
      have hS35 : SceneR M35 30 (st_c S) := hS.keep (fun i a b => ho35 i (by omega) (by omega))
      refine ro_aload_n dX5_lower_38 rfl rfl ?_
      refine gf_X5_now  in_X5_lower_X5 lk_X5_lower_52 dX5_lower_39 ?_
      refine ro_iload_n dX5_lower_42 rfl rfl ?_
      refine ro_callV1Q ok_X4_tryLowered (ct_tryL sc_30 hL35 okl hS35 oc (by omega) (by omega)) (ce_X4 sc_30) rfl rfl gX5_lower_X4_tryLowered (Nat.le_of_ble_eq_true rfl) (Nat.le_of_ble_eq_true rfl) dX5_lower_43 (fun v43 M43 L43 q43 => ?_)
      obtain ⟨rfl, hS43, ho43, rfl⟩ := q43
      rw [if_pos b21] at hS43
      refine ro_pop dX5_lower_46 rfl ?_
      refine ro_aload_n dX5_lower_47 rfl rfl ?_
      refine gf_X5_now  in_X5_lower_X5 lk_X5_lower_52 dX5_lower_48 ?_
      refine gf_X4_voice sc_30 in_X5_lower_X4 lk_X5_lower_109 dX5_lower_51 ?_
      refine ro_iload_n dX5_lower_54 rfl rfl ?_
      refine ro_ai (ar_s3 sc_30) rfl (by omega) dX5_lower_55 ?_
      rw [hS43.2.2.1 k (by omega)]
      refine ro_iret rfl dX5_lower_56 ?_
      have hk2 : ∀ i, i ≠ 10 → (i < 30 ∨ 33 < i) → (i < 38 ∨ 93 < i) → M43 i = M i := fun i z1 z2 z3 => (ho43 i z2).trans (ho35 i z1 z3)
      have hAx : ActsR M43 ((st_c S :: st_a S).take 14) := hA35.keep (ho43 10 (by omega)) (fun i a b => ho43 i (by omega))
      rw [show sp_lower S (nI k) = _ from (if_pos b8).trans (if_pos (by rw [kx_nI (by omega)]; exact b21)), kx_nI (by omega)]
      refine ⟨?_, h.act hS43 hAx hk2, fun i hi => hk2 i (by omega) (by omega) (by omega), rfl⟩
      show some (Value.int (oI (va_up (sc_vo (st_c S)) k _ k))) = _
      rw [va_up_self]
    · rw [bI_eq0] at b21
      refine ro_bipush (v := -3) dX5_lower_24 (by decide) ?_
      refine ro_iret rfl dX5_lower_26 ?_
      rw [show sp_lower S (nI k) = (-3, S) from (if_pos b8).trans (if_neg (by rw [kx_nI (by omega), b21]; decide))]
      exact ⟨rfl, h, OnlySc.rf.all, rfl⟩
  · rw [bI_eq0] at b8
    refine ro_iconst (v := -1) dX5_lower_11 (by decide) ?_
    refine ro_iret rfl dX5_lower_12 ?_
    rw [show sp_lower S x = (-1, S) from if_neg (by rw [b8]; decide)]
    exact ⟨rfl, h, OnlySc.rf.all, rfl⟩
theorem ct_raise {g : GT} {M : MM} {L : LL} {S : ST} {b : Nat} {x : Int32} (h : RC M L S) (ok : StOK b S) : CTQ g mX5_raise 3 [.ref (dq_A g 0), .int x] M L (QC M L (sp_raise S x)) := by
  have hL := h.2.2.1
  have hS := h.2.2.2.1
  have hA := h.2.2.2.2.1
  have okl := ok.2.2.1
  have oc := ok.2.2.2.1
  have a1 := okl.1
  have hb := ok.2.2.2.2.2.2.2
  have h64 := ok.1
  refine ct_of ok_X5_raise (lv := [some (.ref (dq_A g 0)), some (.int x)]) rfl (Nat.le_of_ble_eq_true rfl) ?_
  refine ro_aload_n dX5_raise_0 rfl rfl ?_
  refine gf_X5_told  in_X5_raise_X5 lk_X5_raise_38 dX5_raise_1 ?_
  refine ro_iload_n dX5_raise_4 rfl rfl ?_
  refine ro_callV1 ok_X2_hasHouse (ct_hasHouse ln_16 hL.1 x) (ce_X2 ln_16) rfl rfl gX5_raise_X2_hasHouse (Nat.le_of_ble_eq_true rfl) (Nat.le_of_ble_eq_true rfl) dX5_raise_5 ?_
  refine ro_if_ne 13 dX5_raise_8 (by decide) (fun b8 => ?_) (fun b8 => ?_)
  · rw [bI_ne0] at b8
    obtain ⟨k, hk, rfl⟩ := hB_some (by omega) b8
    refine ro_aload_n dX5_raise_13 rfl rfl ?_
    refine gf_X5_now  in_X5_raise_X5 lk_X5_raise_52 dX5_raise_14 ?_
    refine ro_iload_n dX5_raise_17 rfl rfl ?_
    refine ro_callV1 ok_X4_canBeRaised (ct_canR sc_30 hL okl hS oc (by omega) (by omega)) (ce_X4 sc_30) rfl rfl gX5_raise_X4_canBeRaised (Nat.le_of_ble_eq_true rfl) (Nat.le_of_ble_eq_true rfl) dX5_raise_18 ?_
    refine ro_if_ne 27 dX5_raise_21 (by decide) (fun b21 => ?_) (fun b21 => ?_)
    · rw [bI_ne0] at b21
      refine ro_aload_n dX5_raise_27 rfl rfl ?_
      refine gf_X5_acts  in_X5_raise_X5 lk_X5_raise_62 dX5_raise_28 ?_
      refine ro_aload_n dX5_raise_31 rfl rfl ?_
      refine gf_X5_now  in_X5_raise_X5 lk_X5_raise_52 dX5_raise_32 ?_
      refine ro_callV1Q ok_X0_note (ct_note hA hS) ce_X0 rfl rfl gX5_raise_X0_note (Nat.le_of_ble_eq_true rfl) (Nat.le_of_ble_eq_true rfl) dX5_raise_35 (fun v35 M35 L35 q35 => ?_)
      obtain ⟨rfl, hA35, ho35, rfl⟩ := q35
      have hL35 : LaneR M35 16 (st_l S) := hL.keep (fun i a b => ho35 i (by omega) (by omega))
      have hS35 : SceneR M35 30 (st_c S) := hS.keep (fun i a b => ho35 i (by omega) (by omega))
      refine ro_aload_n dX5_raise_38 rfl rfl ?_
      refine gf_X5_now  in_X5_raise_X5 lk_X5_raise_52 dX5_raise_39 ?_
      refine ro_iload_n dX5_raise_42 rfl rfl ?_
      refine ro_callV1Q ok_X4_tryRaised (ct_tryR sc_30 hL35 okl hS35 oc (by omega) (by omega)) (ce_X4 sc_30) rfl rfl gX5_raise_X4_tryRaised (Nat.le_of_ble_eq_true rfl) (Nat.le_of_ble_eq_true rfl) dX5_raise_43 (fun v43 M43 L43 q43 => ?_)
      obtain ⟨rfl, hS43, ho43, rfl⟩ := q43
      rw [if_pos b21] at hS43
      refine ro_pop dX5_raise_46 rfl ?_
      refine ro_aload_n dX5_raise_47 rfl rfl ?_
      refine gf_X5_now  in_X5_raise_X5 lk_X5_raise_52 dX5_raise_48 ?_
      refine gf_X4_voice sc_30 in_X5_raise_X4 lk_X5_raise_109 dX5_raise_51 ?_
      refine ro_iload_n dX5_raise_54 rfl rfl ?_
      refine ro_ai (ar_s3 sc_30) rfl (by omega) dX5_raise_55 ?_
      rw [hS43.2.2.1 k (by omega)]
      refine ro_iret rfl dX5_raise_56 ?_
      have hk2 : ∀ i, i ≠ 10 → (i < 30 ∨ 33 < i) → (i < 38 ∨ 93 < i) → M43 i = M i := fun i z1 z2 z3 => (ho43 i z2).trans (ho35 i z1 z3)
      have hAx : ActsR M43 ((st_c S :: st_a S).take 14) := hA35.keep (ho43 10 (by omega)) (fun i a b => ho43 i (by omega))
      rw [show sp_raise S (nI k) = _ from (if_pos b8).trans (if_pos (by rw [kx_nI (by omega)]; exact b21)), kx_nI (by omega)]
      refine ⟨?_, h.act hS43 hAx hk2, fun i hi => hk2 i (by omega) (by omega) (by omega), rfl⟩
      show some (Value.int (oI (va_up (sc_vo (st_c S)) k _ k))) = _
      rw [va_up_self]
    · rw [bI_eq0] at b21
      refine ro_bipush (v := -3) dX5_raise_24 (by decide) ?_
      refine ro_iret rfl dX5_raise_26 ?_
      rw [show sp_raise S (nI k) = (-3, S) from (if_pos b8).trans (if_neg (by rw [kx_nI (by omega), b21]; decide))]
      exact ⟨rfl, h, OnlySc.rf.all, rfl⟩
  · rw [bI_eq0] at b8
    refine ro_iconst (v := -1) dX5_raise_11 (by decide) ?_
    refine ro_iret rfl dX5_raise_12 ?_
    rw [show sp_raise S x = (-1, S) from if_neg (by rw [b8]; decide)]
    exact ⟨rfl, h, OnlySc.rf.all, rfl⟩
theorem ct_change {g : GT} {M : MM} {L : LL} {S : ST} {b : Nat} {x y : Int32} (h : RC M L S) (ok : StOK b S) : CTQ g mX5_change 3 [.ref (dq_A g 0), .int x, .int y] M L (QC M L (sp_change S x y)) := by
  have hL := h.2.2.1
  have hS := h.2.2.2.1
  have hA := h.2.2.2.2.1
  have okl := ok.2.2.1
  have oc := ok.2.2.2.1
  have a1 := okl.1
  have hb := ok.2.2.2.2.2.2.2
  have h64 := ok.1
  refine ct_of ok_X5_change (lv := [some (.ref (dq_A g 0)), some (.int x), some (.int y)]) rfl (Nat.le_of_ble_eq_true rfl) ?_
  refine ro_aload_n dX5_change_0 rfl rfl ?_
  refine gf_X5_told  in_X5_change_X5 lk_X5_change_38 dX5_change_1 ?_
  refine ro_iload_n dX5_change_4 rfl rfl ?_
  refine ro_callV1 ok_X2_hasHouse (ct_hasHouse ln_16 hL.1 x) (ce_X2 ln_16) rfl rfl gX5_change_X2_hasHouse (Nat.le_of_ble_eq_true rfl) (Nat.le_of_ble_eq_true rfl) dX5_change_5 ?_
  refine ro_if_eq 22 dX5_change_8 (by decide) (fun b8 => ?_) (fun b8 => ?_)
  · rw [bI_eq0] at b8
    refine ro_iconst (v := -1) dX5_change_22 (by decide) ?_
    refine ro_iret rfl dX5_change_23 ?_
    rw [show sp_change S x y = (-1, S) from if_neg (fun z => by first | (rw [b8] at z; exact absurd z.1 (by decide)) | (rw [b19] at z; exact absurd z.2 (by decide)))]
    exact ⟨rfl, h, OnlySc.rf.all, rfl⟩
  · rw [bI_ne0] at b8
    refine ro_aload_n dX5_change_11 rfl rfl ?_
    refine gf_X5_told  in_X5_change_X5 lk_X5_change_38 dX5_change_12 ?_
    refine ro_iload_n dX5_change_15 rfl rfl ?_
    refine ro_callV1 ok_X2_hasHouse (ct_hasHouse ln_16 hL.1 y) (ce_X2 ln_16) rfl rfl gX5_change_X2_hasHouse (Nat.le_of_ble_eq_true rfl) (Nat.le_of_ble_eq_true rfl) dX5_change_16 ?_
    refine ro_if_ne 24 dX5_change_19 (by decide) (fun b19 => ?_) (fun b19 => ?_)
    · rw [bI_ne0] at b19
      obtain ⟨k, hk, rfl⟩ := hB_some (by omega) b8
      obtain ⟨j, hj, rfl⟩ := hB_some (by omega) b19
      refine ro_iload_n dX5_change_24 rfl rfl ?_
      refine ro_iload_n dX5_change_25 rfl rfl ?_
      refine ro_icmp_ne 32 dX5_change_26 (by decide) (fun b26 => ?_) (fun b26 => ?_)
      · refine ro_aload_n dX5_change_32 rfl rfl ?_
        refine gf_X5_acts  in_X5_change_X5 lk_X5_change_62 dX5_change_33 ?_
        refine ro_aload_n dX5_change_36 rfl rfl ?_
        refine gf_X5_now  in_X5_change_X5 lk_X5_change_52 dX5_change_37 ?_
        refine ro_callV1Q ok_X0_note (ct_note hA hS) ce_X0 rfl rfl gX5_change_X0_note (Nat.le_of_ble_eq_true rfl) (Nat.le_of_ble_eq_true rfl) dX5_change_40 (fun v40 M40 L40 q40 => ?_)
        obtain ⟨rfl, hA40, ho40, rfl⟩ := q40
        have hL40 : LaneR M40 16 (st_l S) := hL.keep (fun i a b => ho40 i (by omega) (by omega))
        have hS40 : SceneR M40 30 (st_c S) := hS.keep (fun i a b => ho40 i (by omega) (by omega))
        refine ro_aload_n dX5_change_43 rfl rfl ?_
        refine gf_X5_now  in_X5_change_X5 lk_X5_change_52 dX5_change_44 ?_
        refine ro_iload_n dX5_change_47 rfl rfl ?_
        refine ro_iload_n dX5_change_48 rfl rfl ?_
        refine ro_callV2Q ok_X4_tryChanged (ct_tryC sc_30 hL40 okl hS40 oc (by omega) (by omega) (by omega)) (ce_X4 sc_30) rfl rfl gX5_change_X4_tryChanged (Nat.le_of_ble_eq_true rfl) (Nat.le_of_ble_eq_true rfl) dX5_change_49 (fun v49 M49 L49 q49 => ?_)
        have hkj : ¬ k = j := fun z => b26 (by rw [z])
        obtain ⟨rfl, hS49, ho49, rfl⟩ := q49
        rw [if_pos (by simp [canC, hk, hj, hkj])] at hS49
        refine ro_pop dX5_change_52 rfl ?_
        refine ro_aload_n dX5_change_53 rfl rfl ?_
        refine gf_X5_now  in_X5_change_X5 lk_X5_change_52 dX5_change_54 ?_
        refine gf_X4_knows sc_30 in_X5_change_X4 lk_X5_change_116 dX5_change_57 ?_
        refine ro_iload_n dX5_change_60 rfl rfl ?_
        refine ro_ai (ar_s2 sc_30) rfl (by omega) dX5_change_61 ?_
        rw [hS49.2.1 k (by omega)]
        refine ro_iret rfl dX5_change_62 ?_
        have hk2 : ∀ i, i ≠ 10 → (i < 30 ∨ 33 < i) → (i < 38 ∨ 93 < i) → M49 i = M i := fun i z1 z2 z3 => (ho49 i z2).trans (ho40 i z1 z3)
        have hAx : ActsR M49 ((st_c S :: st_a S).take 14) := hA40.keep (ho49 10 (by omega)) (fun i a b => ho49 i (by omega))
        rw [show sp_change S (nI k) (nI j) = _ from (if_pos ⟨b8, b19⟩).trans (if_neg b26), kx_nI (by omega), kx_nI (by omega)]
        refine ⟨?_, h.act hS49 hAx hk2, fun i hi => hk2 i (by omega) (by omega) (by omega), rfl⟩
        show some (Value.int (nI (va_up (va_up (sc_kn (st_c S)) k (sc_kn (st_c S) j)) j (sc_kn (st_c S) k) k))) = _
        rw [va_up_ne _ _ hkj, va_up_self]
      · refine ro_bipush (v := -2) dX5_change_29 (by decide) ?_
        refine ro_iret rfl dX5_change_31 ?_
        rw [show sp_change S (nI k) (nI j) = (-2, S) from (if_pos ⟨b8, b19⟩).trans (if_pos b26)]
        exact ⟨rfl, h, OnlySc.rf.all, rfl⟩
    · rw [bI_eq0] at b19
      refine ro_iconst (v := -1) dX5_change_22 (by decide) ?_
      refine ro_iret rfl dX5_change_23 ?_
      rw [show sp_change S x y = (-1, S) from if_neg (fun z => by first | (rw [b8] at z; exact absurd z.1 (by decide)) | (rw [b19] at z; exact absurd z.2 (by decide)))]
      exact ⟨rfl, h, OnlySc.rf.all, rfl⟩
theorem ct_plate {g : GT} {M : MM} {L : LL} {S : ST} {b : Nat} {x : Int32} (h : RC M L S) (ok : StOK b S) : CTQ g mX5_plate 3 [.ref (dq_A g 0), .int x] M L (QC M L (sp_plate S x)) := by
  have hL := h.2.2.1
  have hS := h.2.2.2.1
  have hA := h.2.2.2.2.1
  have okl := ok.2.2.1
  have oc := ok.2.2.2.1
  have a1 := okl.1
  have hb := ok.2.2.2.2.2.2.2
  have h64 := ok.1
  refine ct_of ok_X5_plate (lv := [some (.ref (dq_A g 0)), some (.int x)]) rfl (Nat.le_of_ble_eq_true rfl) ?_
  refine ro_aload_n dX5_plate_0 rfl rfl ?_
  refine gf_X5_told  in_X5_plate_X5 lk_X5_plate_38 dX5_plate_1 ?_
  refine ro_iload_n dX5_plate_4 rfl rfl ?_
  refine ro_callV1 ok_X2_hasHouse (ct_hasHouse ln_16 hL.1 x) (ce_X2 ln_16) rfl rfl gX5_plate_X2_hasHouse (Nat.le_of_ble_eq_true rfl) (Nat.le_of_ble_eq_true rfl) dX5_plate_5 ?_
  refine ro_if_ne 13 dX5_plate_8 (by decide) (fun b8 => ?_) (fun b8 => ?_)
  · rw [bI_ne0] at b8
    obtain ⟨k, hk, rfl⟩ := hB_some (by omega) b8
    refine ro_aload_n dX5_plate_13 rfl rfl ?_
    refine gf_X5_told  in_X5_plate_X5 lk_X5_plate_38 dX5_plate_14 ?_
    refine ro_iload_n dX5_plate_17 rfl rfl ?_
    refine ro_callV1 ok_X2_hasNext (ct_hasNext ln_16 hL.1 a1 (nI k)) (ce_X2 ln_16) rfl rfl gX5_plate_X2_hasNext (Nat.le_of_ble_eq_true rfl) (Nat.le_of_ble_eq_true rfl) dX5_plate_18 ?_
    refine ro_if_ne 27 dX5_plate_21 (by decide) (fun b21 => ?_) (fun b21 => ?_)
    · rw [bI_ne0, hB_nI (by omega) (by omega), decide_eq_true_eq] at b21
      have hcp : canP (ln_n (st_l S)) k = true := decide_eq_true (by omega)
      refine ro_aload_n dX5_plate_27 rfl rfl ?_
      refine gf_X5_acts  in_X5_plate_X5 lk_X5_plate_62 dX5_plate_28 ?_
      refine ro_aload_n dX5_plate_31 rfl rfl ?_
      refine gf_X5_now  in_X5_plate_X5 lk_X5_plate_52 dX5_plate_32 ?_
      refine ro_callV1Q ok_X0_note (ct_note hA hS) ce_X0 rfl rfl gX5_plate_X0_note (Nat.le_of_ble_eq_true rfl) (Nat.le_of_ble_eq_true rfl) dX5_plate_35 (fun v35 M35 L35 q35 => ?_)
      obtain ⟨rfl, hA35, ho35, rfl⟩ := q35
      have hL35 : LaneR M35 16 (st_l S) := hL.keep (fun i a b => ho35 i (by omega) (by omega))
      have hS35 : SceneR M35 30 (st_c S) := hS.keep (fun i a b => ho35 i (by omega) (by omega))
      refine ro_aload_n dX5_plate_38 rfl rfl ?_
      refine gf_X5_now  in_X5_plate_X5 lk_X5_plate_52 dX5_plate_39 ?_
      refine ro_iload_n dX5_plate_42 rfl rfl ?_
      refine ro_callV1Q ok_X4_tryPlate (ct_tryP sc_30 hL35 okl hS35 oc (by omega) (by omega)) (ce_X4 sc_30) rfl rfl gX5_plate_X4_tryPlate (Nat.le_of_ble_eq_true rfl) (Nat.le_of_ble_eq_true rfl) dX5_plate_43 (fun v43 M43 L43 q43 => ?_)
      obtain ⟨rfl, hS43, ho43, rfl⟩ := q43
      rw [if_pos hcp] at hS43
      refine ro_pop dX5_plate_46 rfl ?_
      refine ro_aload_n dX5_plate_47 rfl rfl ?_
      refine gf_X5_now  in_X5_plate_X5 lk_X5_plate_52 dX5_plate_48 ?_
      refine gf_X4_knows sc_30 in_X5_plate_X4 lk_X5_plate_116 dX5_plate_51 ?_
      refine ro_iload_n dX5_plate_54 rfl rfl ?_
      refine ro_iconst (v := 1) dX5_plate_55 (by decide) ?_
      refine ro_iadd dX5_plate_56 ?_
      rw [nI_1]
      refine ro_ai (ar_s2 sc_30) rfl (by omega) dX5_plate_57 ?_
      rw [hS43.2.1 (k + 1) (by omega)]
      refine ro_iret rfl dX5_plate_58 ?_
      have hk2 : ∀ i, i ≠ 10 → (i < 30 ∨ 33 < i) → (i < 38 ∨ 93 < i) → M43 i = M i := fun i z1 z2 z3 => (ho43 i z2).trans (ho35 i z1 z3)
      have hAx : ActsR M43 ((st_c S :: st_a S).take 14) := hA35.keep (ho43 10 (by omega)) (fun i a b => ho43 i (by omega))
      rw [show sp_plate S (nI k) = _ from (if_pos b8).trans (if_pos (by rw [kx_nI (by omega)]; exact hcp)), kx_nI (by omega)]
      refine ⟨?_, h.act hS43 hAx hk2, fun i hi => hk2 i (by omega) (by omega) (by omega), rfl⟩
      show some (Value.int (nI (va_up (sc_kn (st_c S)) (k + 1) _ (k + 1)))) = _
      rw [va_up_self]
    · rw [bI_eq0, hB_nI (by omega) (by omega), decide_eq_false_iff_not] at b21
      have hcp : canP (ln_n (st_l S)) k = false := decide_eq_false (by omega)
      refine ro_bipush (v := -3) dX5_plate_24 (by decide) ?_
      refine ro_iret rfl dX5_plate_26 ?_
      rw [show sp_plate S (nI k) = (-3, S) from (if_pos b8).trans (if_neg (by rw [kx_nI (by omega), hcp]; decide))]
      exact ⟨rfl, h, OnlySc.rf.all, rfl⟩
  · rw [bI_eq0] at b8
    refine ro_iconst (v := -1) dX5_plate_11 (by decide) ?_
    refine ro_iret rfl dX5_plate_12 ?_
    rw [show sp_plate S x = (-1, S) from if_neg (by rw [b8]; decide)]
    exact ⟨rfl, h, OnlySc.rf.all, rfl⟩
theorem sp_undo_0 {S : ST} (h : st_a S = []) : sp_undo S = (-3, S) := by unfold sp_undo; rw [h]
theorem sp_undo_1 {S : ST} {c : SC} {l : List SC} (h : st_a S = c :: l) : sp_undo S = (nI l.length, (S.1, st_l S, c, l, st_k S, st_h S, st_s S)) := by unfold sp_undo; rw [h]
theorem ct_undo {g : GT} {M : MM} {L : LL} {S : ST} {b : Nat} (h : RC M L S) (ok : StOK b S) : CTQ g mX5_undo 3 [.ref (dq_A g 0)] M L (QC M L (sp_undo S)) := by
  have hL := h.2.2.1
  have hS := h.2.2.2.1
  have hA := h.2.2.2.2.1
  have okl := ok.2.2.1
  have oc := ok.2.2.2.1
  have a1 := okl.1
  have hb := ok.2.2.2.2.2.2.2
  have h64 := ok.1
  refine ct_of ok_X5_undo (lv := [some (.ref (dq_A g 0))]) rfl (Nat.le_of_ble_eq_true rfl) ?_
  refine ro_aload_n dX5_undo_0 rfl rfl ?_
  refine gf_X5_acts  in_X5_undo_X5 lk_X5_undo_62 dX5_undo_1 ?_
  refine gf_X0_size  in_X5_undo_X0 lk_X5_undo_167 dX5_undo_4 ?_
  obtain ⟨o7, z1, z2, z3, z4, z5⟩ := id hA
  rw [z3]
  refine ro_if_ne 13 dX5_undo_7 (by decide) (fun b7 => ?_) (fun b7 => ?_)
  · obtain ⟨c, l, hal⟩ : ∃ c l, st_a S = c :: l := by
      cases hal : st_a S with
      | nil => exact absurd (by rw [hal]; rfl) b7
      | cons c l => exact ⟨c, l, rfl⟩
    rw [hal] at hA
    refine ro_aload_n dX5_undo_13 rfl rfl ?_
    refine gf_X5_acts  in_X5_undo_X5 lk_X5_undo_62 dX5_undo_14 ?_
    refine ro_aload_n dX5_undo_17 rfl rfl ?_
    refine gf_X5_now  in_X5_undo_X5 lk_X5_undo_52 dX5_undo_18 ?_
    refine ro_callV1Q ok_X0_takeBack (ct_takeBack hA) ce_X0 rfl rfl gX5_undo_X0_takeBack (Nat.le_of_ble_eq_true rfl) (Nat.le_of_ble_eq_true rfl) dX5_undo_21 (fun v21 M21 L21 q21 => ?_)
    obtain ⟨rfl, hA21, hS21, ho21, rfl⟩ := q21
    refine ro_aload_n dX5_undo_24 rfl rfl ?_
    refine gf_X5_acts  in_X5_undo_X5 lk_X5_undo_62 dX5_undo_25 ?_
    refine gf_X0_size  in_X5_undo_X0 lk_X5_undo_167 dX5_undo_28 ?_
    obtain ⟨o8, y1, y2, y3, y4, y5⟩ := id hA21
    rw [y3]
    refine ro_iret rfl dX5_undo_31 ?_
    rw [sp_undo_1 hal]
    refine ⟨rfl, ⟨?_, ?_, hL.keep (fun i a b => ho21 i (by omega) (by omega)), hS21, hA21, h.2.2.2.2.2.1.keep (ho21 3 (by omega) (by omega)) (fun i a b => ho21 i (by omega) (by omega)), h.2.2.2.2.2.2.1.keep (fun i a b => ho21 i (by omega) (by omega)), h.2.2.2.2.2.2.2⟩, fun i hi => ho21 i (by omega) (by omega), rfl⟩
    · rw [ho21 0 (by omega) (by omega)]; exact h.1
    · rw [ho21 1 (by omega) (by omega)]; exact h.2.1
  · have hal : st_a S = [] := List.eq_nil_of_length_eq_zero ((nI_eq (b := 0) (by omega) (by decide)).mp b7)
    refine ro_bipush (v := -3) dX5_undo_10 (by decide) ?_
    refine ro_iret rfl dX5_undo_12 ?_
    rw [sp_undo_0 hal]
    exact ⟨rfl, h, OnlySc.rf.all, rfl⟩
theorem ct_later {g : GT} {M : MM} {L : LL} {S : ST} {b : Nat} {x m : Int32} (h : RC M L S) (ok : StOK b S) : CTQ g mX5_later 5 [.ref (dq_A g 0), .int x, .int m] M L (QC M L (sp_later S x m)) := by
  have hL := h.2.2.1
  have hS := h.2.2.2.1
  have hA := h.2.2.2.2.1
  have okl := ok.2.2.1
  have oc := ok.2.2.2.1
  have a1 := okl.1
  have hb := ok.2.2.2.2.2.2.2
  have h64 := ok.1
  refine ct_of ok_X5_later (lv := [some (.ref (dq_A g 0)), some (.int x), some (.int m)]) rfl (Nat.le_of_ble_eq_true rfl) ?_
  refine ro_aload_n dX5_later_0 rfl rfl ?_
  refine gf_X5_told  in_X5_later_X5 lk_X5_later_38 dX5_later_1 ?_
  refine ro_iload_n dX5_later_4 rfl rfl ?_
  refine ro_callV1 ok_X2_hasHouse (ct_hasHouse ln_16 hL.1 x) (ce_X2 ln_16) rfl rfl gX5_later_X2_hasHouse (Nat.le_of_ble_eq_true rfl) (Nat.le_of_ble_eq_true rfl) dX5_later_5 ?_
  refine ro_if_ne 13 dX5_later_8 (by decide) (fun b8 => ?_) (fun b8 => ?_)
  · rw [bI_ne0] at b8
    obtain ⟨k, hk, rfl⟩ := hB_some (by omega) b8
    refine ro_iload_n dX5_later_13 rfl rfl ?_
    refine ro_if_lt 23 dX5_later_14 (by decide) (fun b14 => ?_) (fun b14 => ?_)
    · refine ro_bipush (v := -2) dX5_later_23 (by decide) ?_
      refine ro_iret rfl dX5_later_25 ?_
      rw [show sp_later S (nI k) m = (-2, S) from by unfold sp_later; rw [if_pos b8, if_pos (by first | exact Or.inl b14 | exact Or.inr (Int32.not_le.mp b20))]]
      exact ⟨rfl, h, OnlySc.rf.all, rfl⟩
    · refine ro_iload_n dX5_later_17 rfl rfl ?_
      refine ro_bipush (v := 30) dX5_later_18 (by decide) ?_
      refine ro_icmp_le 26 dX5_later_20 (by decide) (fun b20 => ?_) (fun b20 => ?_)
      · obtain ⟨j, hj, rfl⟩ := nI_of2 (M := 30) (n := 30) rfl b14 b20
        refine ro_aload_n dX5_later_26 rfl rfl ?_
        refine gf_X5_trial  in_X5_later_X5 lk_X5_later_56 dX5_later_27 ?_
        refine ro_aload_n dX5_later_30 rfl rfl ?_
        refine gf_X5_now  in_X5_later_X5 lk_X5_later_52 dX5_later_31 ?_
        refine ro_callV1Q ok_X4_take (ct_scTake sc_34 sc_30 (by omega) hS) (ce_X4 sc_34) rfl rfl gX5_later_X4_take (Nat.le_of_ble_eq_true rfl) (Nat.le_of_ble_eq_true rfl) dX5_later_34 (fun v34 M34 L34 q34 => ?_)
        obtain ⟨rfl, hS34, ho34, rfl⟩ := q34
        have hL34 := hL.kS sc_34 ho34
        refine ro_aload_n dX5_later_37 rfl rfl ?_
        refine gf_X5_trial  in_X5_later_X5 lk_X5_later_56 dX5_later_38 ?_
        refine ro_iload_n dX5_later_41 rfl rfl ?_
        refine ro_callV1Q ok_X4_passHours (ct_passHours sc_34 hL34 okl hS34 oc (by omega)) (ce_X4 sc_34) rfl rfl gX5_later_X4_passHours (Nat.le_of_ble_eq_true rfl) (Nat.le_of_ble_eq_true rfl) dX5_later_42 (fun v42 M42 L42 q42 => ?_)
        obtain ⟨rfl, hS42, ho42, rfl⟩ := q42
        refine ro_aload_n dX5_later_45 rfl rfl ?_
        refine gf_X5_trial  in_X5_later_X5 lk_X5_later_56 dX5_later_46 ?_
        refine gf_X4_knows sc_34 in_X5_later_X4 lk_X5_later_116 dX5_later_49 ?_
        refine ro_iload_n dX5_later_52 rfl rfl ?_
        refine ro_ai (ar_s2 sc_34) rfl (by omega) dX5_later_53 ?_
        rw [hS42.2.1 k (by omega)]
        refine ro_iret rfl dX5_later_54 ?_
        rw [show sp_later S (nI k) (nI j) = (nI (sc_kn (hrsC (st_l S) j (st_c S)) k), S) from by unfold sp_later; rw [if_pos b8, if_neg (fun z => z.elim b14 (Int32.not_lt.mpr b20)), kx_nI (by omega), kx_nI (by omega)]]
        have ho := OnlySc.tri (ho34.tr ho42)
        exact ⟨rfl, h.sc ho rfl, ho.all, rfl⟩
      · refine ro_bipush (v := -2) dX5_later_23 (by decide) ?_
        refine ro_iret rfl dX5_later_25 ?_
        rw [show sp_later S (nI k) m = (-2, S) from by unfold sp_later; rw [if_pos b8, if_pos (by first | exact Or.inl b14 | exact Or.inr (Int32.not_le.mp b20))]]
        exact ⟨rfl, h, OnlySc.rf.all, rfl⟩
  · rw [bI_eq0] at b8
    refine ro_iconst (v := -1) dX5_later_11 (by decide) ?_
    refine ro_iret rfl dX5_later_12 ?_
    rw [show sp_later S x m = (-1, S) from by unfold sp_later; rw [if_neg (by rw [b8]; decide)]]
    exact ⟨rfl, h, OnlySc.rf.all, rfl⟩
