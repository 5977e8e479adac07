theorem gcd_step (x y : Nat) : Nat.gcd y (x % y) = Nat.gcd x y := by rw [Nat.gcd_comm y, ← Nat.gcd_rec, Nat.gcd_comm]
theorem mod_half {x y : Nat} (h : 0 < y) (hy : y ≤ x) : 2 * (x % y) < x := by
  have h1 := Nat.div_add_mod x y
  have h2 := Nat.mod_lt x h
  have h3 : 1 ≤ x / y := (Nat.one_le_div_iff h).mpr hy
  have h4 : y * 1 ≤ y * (x / y) := Nat.mul_le_mul_left y h3
  omega
theorem gd_0 {g : GT} {M : MM} {L : LL} {a0 b0 x i : Nat} {x5 : Option Value} (hi : i ≤ 64) : JW g mX5_greatestDivisor 0 (Rt (some (.int (nI x))) M L) M L 7 [some (.int (nI a0)), some (.int (nI b0)), some (.int (nI x)), some (.int (nI 0)), some (.int (nI i)), x5] [] := by
  refine ro_iload dX5_greatestDivisor_7 rfl ?_
  refine ro_bipush (v := 64) dX5_greatestDivisor_9 (by decide) ?_
  refine ro_icmp_ge 34 dX5_greatestDivisor_11 (by decide) (fun b11 => ?_) (fun b11 => ?_)
  · refine ro_iload_n dX5_greatestDivisor_34 rfl rfl ?_
    refine ro_iret rfl dX5_greatestDivisor_35 ?_
    exact ⟨rfl, rfl, rfl⟩
  · refine ro_iload_n dX5_greatestDivisor_14 rfl rfl ?_
    refine ro_if_eq 34 dX5_greatestDivisor_15 (by decide) (fun b15 => ?_) (fun b15 => ?_)
    · refine ro_iload_n dX5_greatestDivisor_34 rfl rfl ?_
      refine ro_iret rfl dX5_greatestDivisor_35 ?_
      exact ⟨rfl, rfl, rfl⟩
    · exact absurd nI_0 b15
theorem gd_1 {g : GT} {M : MM} {L : LL} {a0 b0 x y i : Nat} {x5 : Option Value} {Q : Option Value → MM → LL → Prop} (hi : i < 64) (hx : x < 2 ^ 31) (hy : y < 2 ^ 31) (h0 : y ≠ 0) (K : JW g mX5_greatestDivisor 0 Q M L 7 [some (.int (nI a0)), some (.int (nI b0)), some (.int (nI y)), some (.int (nI (x % y))), some (.int (nI (i + 1))), some (.int (nI (x % y)))] []) : JW g mX5_greatestDivisor 0 Q M L 7 [some (.int (nI a0)), some (.int (nI b0)), some (.int (nI x)), some (.int (nI y)), some (.int (nI i)), x5] [] := by
  refine ro_iload dX5_greatestDivisor_7 rfl ?_
  refine ro_bipush (v := 64) dX5_greatestDivisor_9 (by decide) ?_
  refine ro_icmp_ge 34 dX5_greatestDivisor_11 (by decide) (fun b11 => ?_) (fun b11 => ?_)
  · exact absurd b11 (nI_ge (b := 64) (by omega) (by decide))
  · refine ro_iload_n dX5_greatestDivisor_14 rfl rfl ?_
    refine ro_if_eq 34 dX5_greatestDivisor_15 (by decide) (fun b15 => ?_) (fun b15 => ?_)
    · exact absurd ((nI_eq (b := 0) hy (by decide)).mp b15) h0
    · refine ro_iload_n dX5_greatestDivisor_18 rfl rfl ?_
      refine ro_iload_n dX5_greatestDivisor_19 rfl rfl ?_
      refine ro_irem dX5_greatestDivisor_20 (nI_ne0 (by omega) hy) ?_
      rw [pk_rem hx (by omega) hy]
      refine ro_istore5 dX5_greatestDivisor_21 (Nat.le_of_ble_eq_true rfl) rfl ?_
      refine ro_iload_n dX5_greatestDivisor_23 rfl rfl ?_
      refine ro_istore_n2 dX5_greatestDivisor_24 (Nat.le_of_ble_eq_true rfl) rfl ?_
      refine ro_iload dX5_greatestDivisor_25 rfl ?_
      refine ro_istore_n3 dX5_greatestDivisor_27 (Nat.le_of_ble_eq_true rfl) rfl ?_
      refine ro_iincP4 dX5_greatestDivisor_28 (Nat.le_of_ble_eq_true rfl) rfl ?_
      refine ro_goto 7 dX5_greatestDivisor_31 (by decide) ?_
      rw [nI_1]; exact K
theorem gd_m {g : GT} {M : MM} {L : LL} {a0 b0 : Nat} : ∀ (m x y i : Nat) (x5 : Option Value), y < 2 ^ m → i + 2 * m + 2 ≤ 64 → x < 2 ^ 31 → y < 2 ^ 31 → JW g mX5_greatestDivisor 0 (Rt (some (.int (nI (Nat.gcd x y)))) M L) M L 7 [some (.int (nI a0)), some (.int (nI b0)), some (.int (nI x)), some (.int (nI y)), some (.int (nI i)), x5] [] := by
  intro m
  induction m with
  | zero =>
    intro x y i x5 hm hi hx hy
    have e : y = 0 := by simp at hm; exact hm
    subst e
    rw [Nat.gcd_zero_right]
    exact gd_0 (by omega)
  | succ m ih =>
    intro x y i x5 hm hi hx hy
    by_cases h0 : y = 0
    · subst h0
      rw [Nat.gcd_zero_right]
      exact gd_0 (by omega)
    · refine gd_1 (by omega) hx hy h0 ?_
      have h1 : x % y < y := Nat.mod_lt _ (by omega)
      rw [← gcd_step]
      by_cases h2 : x % y = 0
      · rw [h2, Nat.gcd_zero_right]
        exact gd_0 (by omega)
      · refine gd_1 (by omega) hy (by omega) h2 ?_
        rw [← gcd_step]
        have h3 := mod_half (x := y) (y := x % y) (by omega) (by omega)
        rw [Nat.pow_succ] at hm
        exact ih (x % y) (y % (x % y)) (i + 1 + 1) _ (by omega) (by omega) (by omega) (by omega)
theorem ct_gcd {g : GT} {M : MM} {L : LL} {a b : Nat} (ha : a < 2 ^ 31) (hb : b < 2 ^ 30) : CT g mX5_greatestDivisor 0 [.int (nI a), .int (nI b)] M L (some (.int (nI (Nat.gcd a b)))) M L := by
  refine ct_of ok_X5_greatestDivisor (lv := [some (.int (nI a)), some (.int (nI b)), none, none, none, none]) rfl (Nat.le_of_ble_eq_true rfl) ?_
  refine ro_iload_n dX5_greatestDivisor_0 rfl rfl ?_
  refine ro_istore_n2 dX5_greatestDivisor_1 (Nat.le_of_ble_eq_true rfl) rfl ?_
  refine ro_iload_n dX5_greatestDivisor_2 rfl rfl ?_
  refine ro_istore_n3 dX5_greatestDivisor_3 (Nat.le_of_ble_eq_true rfl) rfl ?_
  refine ro_iconst (v := 0) dX5_greatestDivisor_4 (by decide) ?_
  refine ro_istore4 dX5_greatestDivisor_5 (Nat.le_of_ble_eq_true rfl) rfl ?_
  exact gd_m 30 a b 0 _ hb (by decide) ha (by omega)
def frI (a b : Nat) (u : Int32) : Int32 := if u = 0 then nI (b / Nat.gcd a b) else nI (a / Nat.gcd a b)
theorem ct_fraction {g : GT} {M : MM} {L : LL} {a b : Nat} {u : Int32} (ha : a < 2 ^ 31) (hb : b < 2 ^ 30) (h0 : 0 < b) : CT g mX5_fraction 1 [.int (nI a), .int (nI b), .int u] M L (some (.int (frI a b u))) M L := by
  have hg : 0 < Nat.gcd a b := Nat.gcd_pos_of_pos_right a h0
  have hg2 : Nat.gcd a b ≤ b := Nat.gcd_le_right a h0
  refine ct_of ok_X5_fraction (lv := [some (.int (nI a)), some (.int (nI b)), some (.int u), none]) rfl (Nat.le_of_ble_eq_true rfl) ?_
  refine ro_iload_n dX5_fraction_0 rfl rfl ?_
  refine ro_iload_n dX5_fraction_1 rfl rfl ?_
  refine ro_callS2 ok_X5_greatestDivisor (ct_gcd ha hb) gX5_fraction_X5_greatestDivisor (Nat.le_of_ble_eq_true rfl) (Nat.le_of_ble_eq_true rfl) dX5_fraction_2 ?_
  refine ro_istore_n3 dX5_fraction_5 (Nat.le_of_ble_eq_true rfl) rfl ?_
  refine ro_iload_n dX5_fraction_6 rfl rfl ?_
  refine ro_if_ne 20 dX5_fraction_7 (by decide) (fun b7 => ?_) (fun b7 => ?_)
  · refine ro_iload_n dX5_fraction_20 rfl rfl ?_
    refine ro_if_eq 30 dX5_fraction_21 (by decide) (fun b21 => ?_) (fun b21 => ?_)
    · refine ro_iload_n dX5_fraction_30 rfl rfl ?_
      refine ro_iload_n dX5_fraction_31 rfl rfl ?_
      refine ro_idiv dX5_fraction_32 b7 ?_
      first
        | rw [pk_div (by omega) hg (by omega)]
        | skip
      refine ro_iret rfl dX5_fraction_33 ?_
      exact ⟨by unfold frI; first | (rw [if_pos b21]; done) | (rw [if_neg b21]; done), rfl, rfl⟩
    · refine ro_iload_n dX5_fraction_24 rfl rfl ?_
      refine ro_iload_n dX5_fraction_25 rfl rfl ?_
      refine ro_idiv dX5_fraction_26 b7 ?_
      rw [pk_div ha hg (by omega)]
      refine ro_goto 33 dX5_fraction_27 (by decide) ?_
      first
        | rw [pk_div (by omega) hg (by omega)]
        | skip
      refine ro_iret rfl dX5_fraction_33 ?_
      exact ⟨by unfold frI; first | (rw [if_pos b21]; done) | (rw [if_neg b21]; done), rfl, rfl⟩
  · exact absurd b7 (nI_ne0 hg (by omega))
def shT (n : Nat) (kn : Nat → Nat) (k : Nat) (t : Nat) : Nat := if (kn k).testBit t = true then 60 / ctB (fun j => (kn j).testBit t) n else 0
def shA (n : Nat) (kn : Nat → Nat) (k : Nat) : Nat → Nat := smB (shT n kn k)
theorem shA_le (n : Nat) (kn : Nat → Nat) (k : Nat) : ∀ t, shA n kn k t ≤ 60 * t
  | 0 => Nat.le_refl _
  | t + 1 => by
    have := shA_le n kn k t
    have h2 : shT n kn k t ≤ 60 := by
      unfold shT
      split
      · exact Nat.div_le_self _ _
      · omega
    show shA n kn k t + shT n kn k t ≤ 60 * (t + 1)
    omega
def sp_share (S : ST) (x u : Int32) : Int32 × ST := (if hB (ln_n (st_l S)) x = true then frI (shA (ln_n (st_l S)) (sc_kn (st_c S)) (kx x) 6) 60 u else -1, S)
theorem lp_share {g : GT} {M : MM} {L : LL} {b k : Nat} {ln : LN} {c : SC} {u : Int32} (hL : LaneR M 16 ln) (ok : LnOK ln) (hS : SceneR M 30 c) (oc : ScOK (ln_n ln) b c) (hb : b < 2 ^ 30) (hk : k < ln_n ln) : ∀ (f i : Nat), i + f = 6 → ∀ x5 : Option Value, JW g mX5_share 2 (Rt (some (.int (frI (shA (ln_n ln) (sc_kn c) k 6) 60 u))) M L) M L 18 [some (.ref (dq_A g 0)), some (.int (nI k)), some (.int u), some (.int (nI (shA (ln_n ln) (sc_kn c) k i))), some (.int (nI i)), x5] [] := by
  have a1 := ok.1
  intro f
  induction f with
  | zero =>
    intro i hi x5
    have e : i = 6 := by omega
    subst e
    refine ro_iload dX5_share_18 rfl ?_
    refine ro_bipush (v := 6) dX5_share_20 (by decide) ?_
    refine ro_icmp_ge 72 dX5_share_22 (by decide) (fun b22 => ?_) (fun b22 => ?_)
    · refine ro_iload_n dX5_share_72 rfl rfl ?_
      refine ro_bipush (v := 60) dX5_share_73 (by decide) ?_
      refine ro_iload_n dX5_share_75 rfl rfl ?_
      refine ro_callS3 ok_X5_fraction (ct_fraction (b := 60) (by have := shA_le (ln_n ln) (sc_kn c) k 6; omega) (by decide) (by decide)) gX5_share_X5_fraction (Nat.le_of_ble_eq_true rfl) (Nat.le_of_ble_eq_true rfl) dX5_share_76 ?_
      refine ro_iret rfl dX5_share_79 ?_
      exact ⟨rfl, rfl, rfl⟩
    · exact absurd (nI_le (a := 6) (by omega) (by omega)) b22
  | succ f ih =>
    intro i hi x5
    refine ro_iload dX5_share_18 rfl ?_
    refine ro_bipush (v := 6) dX5_share_20 (by decide) ?_
    refine ro_icmp_ge 72 dX5_share_22 (by decide) (fun b22 => ?_) (fun b22 => ?_)
    · exact absurd b22 (nI_ge (b := 6) (by omega) (by decide))
    · refine ro_aload_n dX5_share_25 rfl rfl ?_
      refine gf_X5_now  in_X5_share_X5 lk_X5_share_52 dX5_share_26 ?_
      refine ro_iload_n dX5_share_29 rfl rfl ?_
      refine ro_iload dX5_share_30 rfl ?_
      refine ro_callV2 ok_X4_knowsThing (ct_knowsThing sc_30 hS oc.2.2.1 (by omega) (by omega)) (ce_X4 sc_30) rfl rfl gX5_share_X4_knowsThing (Nat.le_of_ble_eq_true rfl) (Nat.le_of_ble_eq_true rfl) dX5_share_32 ?_
      refine ro_if_eq 66 dX5_share_35 (by decide) (fun b35 => ?_) (fun b35 => ?_)
      · rw [bI_eq0] at b35
        refine ro_iincP4 dX5_share_66 (Nat.le_of_ble_eq_true rfl) rfl ?_
        refine ro_goto 18 dX5_share_69 (by decide) ?_
        rw [nI_1]
        have e : shA (ln_n ln) (sc_kn c) k (i + 1) = shA (ln_n ln) (sc_kn c) k i + shT (ln_n ln) (sc_kn c) k i := rfl
        first
          | (have e2 : shT (ln_n ln) (sc_kn c) k i = 0 := if_neg (by rw [b35]; decide)
             have z := ih (i + 1) (by omega) x5
             rw [e, e2, Nat.add_zero] at z
             exact z)
          | (have e2 : shT (ln_n ln) (sc_kn c) k i = 0 := (if_pos b35).trans (by rw [b52])
             have z := ih (i + 1) (by omega) (some (.int (nI (ctB (fun j => (sc_kn c j).testBit i) (ln_n ln)))))
             rw [e, e2, Nat.add_zero] at z
             rw [show nI (shA (ln_n ln) (sc_kn c) k i) + 0 = nI (shA (ln_n ln) (sc_kn c) k i) from nI_add _ 0]
             exact z)
          | (have e2 : shT (ln_n ln) (sc_kn c) k i = 60 / ctB (fun j => (sc_kn c j).testBit i) (ln_n ln) := if_pos b35
             have z := ih (i + 1) (by omega) (some (.int (nI (ctB (fun j => (sc_kn c j).testBit i) (ln_n ln)))))
             rw [e, e2, ← nI_add] at z
             exact z)
      · rw [bI_ne0] at b35
        refine ro_aload_n dX5_share_38 rfl rfl ?_
        refine gf_X5_now  in_X5_share_X5 lk_X5_share_52 dX5_share_39 ?_
        refine ro_iload dX5_share_42 rfl ?_
        refine ro_callV1 ok_X4_knowersOf (ct_knowersOf sc_30 hL ok hS oc hb (by omega)) (ce_X4 sc_30) rfl rfl gX5_share_X4_knowersOf (Nat.le_of_ble_eq_true rfl) (Nat.le_of_ble_eq_true rfl) dX5_share_44 ?_
        have hct := ctB_le (fun j => (sc_kn c j).testBit i) (ln_n ln)
        refine ro_istore5 dX5_share_47 (Nat.le_of_ble_eq_true rfl) rfl ?_
        refine ro_iload_n dX5_share_49 rfl rfl ?_
        refine ro_iload dX5_share_50 rfl ?_
        refine ro_if_le 63 dX5_share_52 (by decide) (fun b52 => ?_) (fun b52 => ?_)
        · rw [nI_le0 (by omega)] at b52
          refine ro_iconst (v := 0) dX5_share_63 (by decide) ?_
          refine ro_iadd dX5_share_64 ?_
          refine ro_istore_n3 dX5_share_65 (Nat.le_of_ble_eq_true rfl) rfl ?_
          refine ro_iincP4 dX5_share_66 (Nat.le_of_ble_eq_true rfl) rfl ?_
          refine ro_goto 18 dX5_share_69 (by decide) ?_
          rw [nI_1]
          have e : shA (ln_n ln) (sc_kn c) k (i + 1) = shA (ln_n ln) (sc_kn c) k i + shT (ln_n ln) (sc_kn c) k i := rfl
          first
            | (have e2 : shT (ln_n ln) (sc_kn c) k i = 0 := if_neg (by rw [b35]; decide)
               have z := ih (i + 1) (by omega) x5
               rw [e, e2, Nat.add_zero] at z
               exact z)
            | (have e2 : shT (ln_n ln) (sc_kn c) k i = 0 := (if_pos b35).trans (by rw [b52])
               have z := ih (i + 1) (by omega) (some (.int (nI (ctB (fun j => (sc_kn c j).testBit i) (ln_n ln)))))
               rw [e, e2, Nat.add_zero] at z
               rw [show nI (shA (ln_n ln) (sc_kn c) k i) + 0 = nI (shA (ln_n ln) (sc_kn c) k i) from nI_add _ 0]
               exact z)
            | (have e2 : shT (ln_n ln) (sc_kn c) k i = 60 / ctB (fun j => (sc_kn c j).testBit i) (ln_n ln) := if_pos b35
               have z := ih (i + 1) (by omega) (some (.int (nI (ctB (fun j => (sc_kn c j).testBit i) (ln_n ln)))))
               rw [e, e2, ← nI_add] at z
               exact z)
        · rw [nI_le0 (by omega)] at b52
          refine ro_bipush (v := 60) dX5_share_55 (by decide) ?_
          refine ro_iload dX5_share_57 rfl ?_
          refine ro_idiv dX5_share_59 (nI_ne0 (by omega) (by omega)) ?_
          rw [show (60 : Int32) = nI 60 from rfl, pk_div (by decide) (by omega) (by omega)]
          refine ro_goto 64 dX5_share_60 (by decide) ?_
          refine ro_iadd dX5_share_64 ?_
          refine ro_istore_n3 dX5_share_65 (Nat.le_of_ble_eq_true rfl) rfl ?_
          refine ro_iincP4 dX5_share_66 (Nat.le_of_ble_eq_true rfl) rfl ?_
          refine ro_goto 18 dX5_share_69 (by decide) ?_
          rw [nI_1]
          have e : shA (ln_n ln) (sc_kn c) k (i + 1) = shA (ln_n ln) (sc_kn c) k i + shT (ln_n ln) (sc_kn c) k i := rfl
          first
            | (have e2 : shT (ln_n ln) (sc_kn c) k i = 0 := if_neg (by rw [b35]; decide)
               have z := ih (i + 1) (by omega) x5
               rw [e, e2, Nat.add_zero] at z
               exact z)
            | (have e2 : shT (ln_n ln) (sc_kn c) k i = 0 := (if_pos b35).trans (by rw [b52])
               have z := ih (i + 1) (by omega) (some (.int (nI (ctB (fun j => (sc_kn c j).testBit i) (ln_n ln)))))
               rw [e, e2, Nat.add_zero] at z
               rw [show nI (shA (ln_n ln) (sc_kn c) k i) + 0 = nI (shA (ln_n ln) (sc_kn c) k i) from nI_add _ 0]
               exact z)
            | (have e2 : shT (ln_n ln) (sc_kn c) k i = 60 / ctB (fun j => (sc_kn c j).testBit i) (ln_n ln) := if_pos b35
               have z := ih (i + 1) (by omega) (some (.int (nI (ctB (fun j => (sc_kn c j).testBit i) (ln_n ln)))))
               rw [e, e2, ← nI_add] at z
               exact z)
theorem ct_share {g : GT} {M : MM} {L : LL} {S : ST} {b : Nat} {x u : Int32} (h : RC M L S) (ok : StOK b S) : CTQ g mX5_share 2 [.ref (dq_A g 0), .int x, .int u] M L (QC M L (sp_share S x u)) := by
  have hL := h.2.2.1
  have hS := h.2.2.2.1
  have hA := h.2.2.2.2.1
  have okl := ok.2.2.1
  have oc := ok.2.2.2.1
  have a1 := okl.1
  have hb := ok.2.2.2.2.2.2.2
  have h64 := ok.1
  refine ct_of ok_X5_share (lv := [some (.ref (dq_A g 0)), some (.int x), some (.int u), none, none, none]) rfl (Nat.le_of_ble_eq_true rfl) ?_
  refine ro_aload_n dX5_share_0 rfl rfl ?_
  refine gf_X5_told  in_X5_share_X5 lk_X5_share_38 dX5_share_1 ?_
  refine ro_iload_n dX5_share_4 rfl rfl ?_
  refine ro_callV1 ok_X2_hasHouse (ct_hasHouse ln_16 hL.1 x) (ce_X2 ln_16) rfl rfl gX5_share_X2_hasHouse (Nat.le_of_ble_eq_true rfl) (Nat.le_of_ble_eq_true rfl) dX5_share_5 ?_
  refine ro_if_ne 13 dX5_share_8 (by decide) (fun b8 => ?_) (fun b8 => ?_)
  · rw [bI_ne0] at b8
    obtain ⟨k, hk, rfl⟩ := hB_some (by omega) b8
    refine ro_iconst (v := 0) dX5_share_13 (by decide) ?_
    refine ro_istore_n3 dX5_share_14 (Nat.le_of_ble_eq_true rfl) rfl ?_
    refine ro_iconst (v := 0) dX5_share_15 (by decide) ?_
    refine ro_istore4 dX5_share_16 (Nat.le_of_ble_eq_true rfl) rfl ?_
    refine JW.mono ?_ (lp_share hL okl hS oc (by omega) hk 6 0 rfl none)
    rintro v M' L' ⟨rfl, rfl, rfl⟩
    refine ⟨?_, h, OnlySc.rf.all, rfl⟩
    show _ = some (Value.int (sp_share S (nI k) u).1)
    unfold sp_share
    rw [if_pos b8, kx_nI (by omega)]
  · rw [bI_eq0] at b8
    refine ro_iconst (v := -1) dX5_share_11 (by decide) ?_
    refine ro_iret rfl dX5_share_12 ?_
    rw [show sp_share S x u = (-1, S) from by unfold sp_share; rw [if_neg (by rw [b8]; decide)]]
    exact ⟨rfl, h, OnlySc.rf.all, rfl⟩
def sp_keep (S : ST) (x : Int32) : Int32 × ST := if hB 2 x = true then (nI (sc_hr (st_c S)), (S.1, st_l S, st_c S, st_a S, va_up (st_k S) (kx x) (some (st_c S)), st_h S, st_s S)) else (-1, S)
def sp_again (S : ST) (x : Int32) : Int32 × ST := if hB 2 x = true then (match st_k S (kx x) with
  | none => (-3, S)
  | some c => (nI (sc_hr c), (S.1, st_l S, c, [], st_k S, st_h S, st_s S))) else (-1, S)
theorem hB2_t {x : Int32} (h0 : ¬ x < 0) (h : x < 2) : ∃ k : Nat, k < 2 ∧ x = nI k ∧ hB 2 x = true := by
  have e : hB 2 x = true := by
    unfold hB
    rw [decide_eq_true]
    exact ⟨h0, fun z => absurd h (Int32.not_lt.mpr z)⟩
  obtain ⟨k, hk, rfl⟩ := hB_some (by decide) e
  exact ⟨k, hk, rfl, e⟩
theorem hB2_f {x : Int32} (h : x < 0 ∨ ¬ x < 2) : hB 2 x = false := by
  unfold hB
  rw [decide_eq_false]
  rintro ⟨z1, z2⟩
  rcases h with h | h
  · exact z1 h
  · exact h (Int32.not_le.mp z2)
theorem ct_keep {g : GT} {M : MM} {L : LL} {S : ST} {b : Nat} {x : Int32} (h : RC M L S) (ok : StOK b S) : CTQ g mX5_keep 2 [.ref (dq_A g 0), .int x] M L (QC M L (sp_keep S x)) := by
  have hL := h.2.2.1
  have hS := h.2.2.2.1
  have hA := h.2.2.2.2.1
  have okl := ok.2.2.1
  have oc := ok.2.2.2.1
  have a1 := okl.1
  have hb := ok.2.2.2.2.2.2.2
  have h64 := ok.1
  refine ct_of ok_X5_keep (lv := [some (.ref (dq_A g 0)), some (.int x)]) rfl (Nat.le_of_ble_eq_true rfl) ?_
  refine ro_iload_n dX5_keep_0 rfl rfl ?_
  refine ro_if_lt 9 dX5_keep_1 (by decide) (fun b1 => ?_) (fun b1 => ?_)
  · refine ro_iconst (v := -1) dX5_keep_9 (by decide) ?_
    refine ro_iret rfl dX5_keep_10 ?_
    rw [show sp_keep S x = (-1, S) from if_neg (by rw [hB2_f (by first | exact Or.inl b1 | exact Or.inr b6)]; decide)]
    exact ⟨rfl, h, OnlySc.rf.all, rfl⟩
  · refine ro_iload_n dX5_keep_4 rfl rfl ?_
    refine ro_iconst (v := 2) dX5_keep_5 (by decide) ?_
    refine ro_icmp_lt 11 dX5_keep_6 (by decide) (fun b6 => ?_) (fun b6 => ?_)
    · obtain ⟨k, hk, rfl, hbk⟩ := hB2_t b1 b6
      refine ro_aload_n dX5_keep_11 rfl rfl ?_
      refine gf_X5_kept  in_X5_keep_X5 lk_X5_keep_15 dX5_keep_12 ?_
      refine ro_iload_n dX5_keep_15 rfl rfl ?_
      refine ro_ri sr_2 rfl hk dX5_keep_16 ?_
      refine ro_aload_n dX5_keep_17 rfl rfl ?_
      refine gf_X5_now  in_X5_keep_X5 lk_X5_keep_52 dX5_keep_18 ?_
      refine ro_callV1Q ok_X4_take (ct_scTake (sc_kp hk) sc_30 (by omega) hS) (ce_X4 (sc_kp hk)) rfl rfl gX5_keep_X4_take (Nat.le_of_ble_eq_true rfl) (Nat.le_of_ble_eq_true rfl) dX5_keep_21 (fun v21 M21 L21 q21 => ?_)
      obtain ⟨rfl, hS21, ho21, rfl⟩ := q21
      refine ro_aload_n dX5_keep_24 rfl rfl ?_
      refine gf_X5_isKept  in_X5_keep_X5 lk_X5_keep_19 dX5_keep_25 ?_
      refine ro_iload_n dX5_keep_28 rfl rfl ?_
      refine ro_iconst (v := 1) dX5_keep_29 (by decide) ?_
      refine ro_bs br_3 rfl hk rfl dX5_keep_30 (fun M30 e30 => ?_)
      refine ro_aload_n dX5_keep_31 rfl rfl ?_
      refine gf_X5_now  in_X5_keep_X5 lk_X5_keep_52 dX5_keep_32 ?_
      refine gf_X4_hour sc_30 in_X5_keep_X4 lk_X5_keep_265 dX5_keep_35 ?_
      rw [show M30 30 5 = nI (sc_hr (st_c S)) from by rw [e30, va_up_ne _ _ (by decide), ho21 30 (by omega)]; exact hS.2.2.2.2]
      refine ro_iret rfl dX5_keep_38 ?_
      rw [show sp_keep S (nI k) = _ from if_pos hbk, kx_nI (by omega)]
      have hk2 : ∀ i, i ≠ 3 → (i < 94 + 4 * k ∨ 94 + 4 * k + 3 < i) → M30 i = M i := fun i z1 z2 => by rw [e30, va_up_ne _ _ z1]; exact ho21 i z2
      refine ⟨rfl, ⟨?_, ?_, hL.keep (fun i a b => hk2 i (by omega) (by omega)), hS.keep (fun i a b => hk2 i (by omega) (by omega)), hA.keep (hk2 10 (by omega) (by omega)) (fun i a b => hk2 i (by omega) (by omega)), fun j hj => ?_, h.2.2.2.2.2.2.1.keep (fun i a b => hk2 i (by omega) (by omega)), h.2.2.2.2.2.2.2⟩, fun i hi => hk2 i (by omega) (by omega), rfl⟩
      · rw [hk2 0 (by omega) (by omega)]; exact h.1
      · rw [hk2 1 (by omega) (by omega)]; exact h.2.1
      · rw [e30, va_up_self, ho21 3 (by omega)]
        show upd (M 3) k 1 j = bI (va_up (st_k S) k (some (st_c S)) j).isSome ∧ ∀ c, va_up (st_k S) k (some (st_c S)) j = some c → SceneR (va_up M21 3 (upd (M 3) k 1)) (94 + 4 * j) c
        by_cases hjk : j = k
        · subst hjk
          rw [pk_us, va_up_self]
          refine ⟨rfl, fun c hc => ?_⟩
          cases hc
          exact hS21.keep (fun i a b => by rw [va_up_ne _ _ (by omega)])
        · rw [pk_un hjk, va_up_ne _ _ hjk]
          refine ⟨(h.2.2.2.2.2.1 j hj).1, fun c hc => ?_⟩
          exact ((h.2.2.2.2.2.1 j hj).2 c hc).keep (fun i a b => by rw [va_up_ne _ _ (by omega)]; exact ho21 i (by omega))
    · refine ro_iconst (v := -1) dX5_keep_9 (by decide) ?_
      refine ro_iret rfl dX5_keep_10 ?_
      rw [show sp_keep S x = (-1, S) from if_neg (by rw [hB2_f (by first | exact Or.inl b1 | exact Or.inr b6)]; decide)]
      exact ⟨rfl, h, OnlySc.rf.all, rfl⟩
theorem ct_again {g : GT} {M : MM} {L : LL} {S : ST} {b : Nat} {x : Int32} (h : RC M L S) (ok : StOK b S) : CTQ g mX5_again 2 [.ref (dq_A g 0), .int x] M L (QC M L (sp_again S x)) := by
  have hL := h.2.2.1
  have hS := h.2.2.2.1
  have hA := h.2.2.2.2.1
  have okl := ok.2.2.1
  have oc := ok.2.2.2.1
  have a1 := okl.1
  have hb := ok.2.2.2.2.2.2.2
  have h64 := ok.1
  refine ct_of ok_X5_again (lv := [some (.ref (dq_A g 0)), some (.int x)]) rfl (Nat.le_of_ble_eq_true rfl) ?_
  refine ro_iload_n dX5_again_0 rfl rfl ?_
  refine ro_if_lt 9 dX5_again_1 (by decide) (fun b1 => ?_) (fun b1 => ?_)
  · refine ro_iconst (v := -1) dX5_again_9 (by decide) ?_
    refine ro_iret rfl dX5_again_10 ?_
    rw [show sp_again S x = (-1, S) from if_neg (by rw [hB2_f (by first | exact Or.inl b1 | exact Or.inr b6)]; decide)]
    exact ⟨rfl, h, OnlySc.rf.all, rfl⟩
  · refine ro_iload_n dX5_again_4 rfl rfl ?_
    refine ro_iconst (v := 2) dX5_again_5 (by decide) ?_
    refine ro_icmp_lt 11 dX5_again_6 (by decide) (fun b6 => ?_) (fun b6 => ?_)
    · obtain ⟨k, hk, rfl, hbk⟩ := hB2_t b1 b6
      refine ro_aload_n dX5_again_11 rfl rfl ?_
      refine gf_X5_isKept  in_X5_again_X5 lk_X5_again_19 dX5_again_12 ?_
      refine ro_iload_n dX5_again_15 rfl rfl ?_
      refine ro_bi br_3 rfl hk dX5_again_16 ?_
      rw [(h.2.2.2.2.2.1 k hk).1]
      refine ro_if_ne 23 dX5_again_17 (by decide) (fun b17 => ?_) (fun b17 => ?_)
      · rw [bI_ne0] at b17
        obtain ⟨c, hc⟩ := Option.isSome_iff_exists.mp b17
        refine ro_aload_n dX5_again_23 rfl rfl ?_
        refine gf_X5_now  in_X5_again_X5 lk_X5_again_52 dX5_again_24 ?_
        refine ro_aload_n dX5_again_27 rfl rfl ?_
        refine gf_X5_kept  in_X5_again_X5 lk_X5_again_15 dX5_again_28 ?_
        refine ro_iload_n dX5_again_31 rfl rfl ?_
        refine ro_ri sr_2 rfl hk dX5_again_32 ?_
        refine ro_callV1Q ok_X4_take (ct_scTake sc_30 (sc_kp hk) (by omega) ((h.2.2.2.2.2.1 k hk).2 c hc)) (ce_X4 sc_30) rfl rfl gX5_again_X4_take (Nat.le_of_ble_eq_true rfl) (Nat.le_of_ble_eq_true rfl) dX5_again_33 (fun v33 M33 L33 q33 => ?_)
        obtain ⟨rfl, hS33, ho33, rfl⟩ := q33
        refine ro_aload_n dX5_again_36 rfl rfl ?_
        refine gf_X5_acts  in_X5_again_X5 lk_X5_again_62 dX5_again_37 ?_
        refine ro_callV0Q ok_X0_forget (ct_forget) ce_X0 rfl rfl gX5_again_X0_forget (Nat.le_of_ble_eq_true rfl) (Nat.le_of_ble_eq_true rfl) dX5_again_40 (fun v40 M40 L40 q40 => ?_)
        obtain ⟨rfl, hA40, ho40, rfl⟩ := q40
        refine ro_aload_n dX5_again_43 rfl rfl ?_
        refine gf_X5_now  in_X5_again_X5 lk_X5_again_52 dX5_again_44 ?_
        refine gf_X4_hour sc_30 in_X5_again_X4 lk_X5_again_265 dX5_again_47 ?_
        rw [show M40 30 5 = nI (sc_hr c) from by rw [ho40 30 (by omega)]; exact hS33.2.2.2.2]
        refine ro_iret rfl dX5_again_50 ?_
        rw [show sp_again S (nI k) = (nI (sc_hr c), (S.1, st_l S, c, [], st_k S, st_h S, st_s S)) from by unfold sp_again; rw [if_pos hbk, kx_nI (by omega), hc]]
        have hk2 : ∀ i, i ≠ 10 → (i < 30 ∨ 33 < i) → M40 i = M i := fun i z1 z2 => by rw [ho40 i (by omega)]; exact ho33 i z2
        refine ⟨rfl, ⟨?_, ?_, hL.keep (fun i a b => hk2 i (by omega) (by omega)), hS33.keep (fun i a b => ho40 i (by omega)), hA40, h.2.2.2.2.2.1.keep (hk2 3 (by omega) (by omega)) (fun i a b => hk2 i (by omega) (by omega)), h.2.2.2.2.2.2.1.keep (fun i a b => hk2 i (by omega) (by omega)), h.2.2.2.2.2.2.2⟩, fun i hi => hk2 i (by omega) (by omega), rfl⟩
        · rw [hk2 0 (by omega) (by omega)]; exact h.1
        · rw [hk2 1 (by omega) (by omega)]; exact h.2.1
      · rw [bI_eq0, Option.isSome_eq_false_iff, Option.isNone_iff_eq_none] at b17
        refine ro_bipush (v := -3) dX5_again_20 (by decide) ?_
        refine ro_iret rfl dX5_again_22 ?_
        rw [show sp_again S (nI k) = (-3, S) from by unfold sp_again; rw [if_pos hbk, kx_nI (by omega), b17]]
        exact ⟨rfl, h, OnlySc.rf.all, rfl⟩
    · refine ro_iconst (v := -1) dX5_again_9 (by decide) ?_
      refine ro_iret rfl dX5_again_10 ?_
      rw [show sp_again S x = (-1, S) from if_neg (by rw [hB2_f (by first | exact Or.inl b1 | exact Or.inr b6)]; decide)]
      exact ⟨rfl, h, OnlySc.rf.all, rfl⟩
def sp_count (S : ST) (w : Int32) : Int32 × ST := (if w = 0 then nI (st_n S) else if w = 1 then nI (ln_n (st_l S)) else if w = 2 then nI (ln_s (st_l S)) else if w = 3 then nI (ln_r (st_l S)) else if w = 4 then nI (sc_hr (st_c S)) else if w = 5 then nI (ln_rainAt (st_l S) (sc_hr (st_c S))) else if w = 6 then nI (sc_dry (st_c S)) else if w = 7 then bI (decide (3 ≤ sc_dry (st_c S))) else if w = 8 then nI (orB (fun _ => true) (sc_kn (st_c S)) (ln_n (st_l S))) else if w = 9 then nI (mkB (hearB (st_l S) (st_c S) (ln_rainAt (st_l S) (sc_hr (st_c S)))) (ln_n (st_l S))) else if w = 10 then nI (st_a S).length else if w = 11 then nI (hd_n (st_h S)) else -2, S)
theorem ct_count {g : GT} {M : MM} {L : LL} {S : ST} {b : Nat} {w : Int32} (h : RC M L S) (ok : StOK b S) : CTQ g mX5_count 4 [.ref (dq_A g 0), .int w] M L (QC M L (sp_count S w)) := by
  have hL := h.2.2.1
  have hS := h.2.2.2.1
  have hA := h.2.2.2.2.1
  have okl := ok.2.2.1
  have oc := ok.2.2.2.1
  have a1 := okl.1
  have hb := ok.2.2.2.2.2.2.2
  have h64 := ok.1
  have h32 : 2 ^ ln_n (st_l S) ≤ 32 := Nat.le_trans (Nat.pow_le_pow_right (by decide) a1) (by decide)
  refine ct_of ok_X5_count (lv := [some (.ref (dq_A g 0)), some (.int w)]) rfl (Nat.le_of_ble_eq_true rfl) ?_
  refine ro_iload_n dX5_count_0 rfl rfl ?_
  rcases sw11 w with hsw | rfl | rfl | rfl | rfl | rfl | rfl | rfl | rfl | rfl | rfl | rfl | rfl
  · refine ro_tableOut 179 dX5_count_1 hsw (by decide) ?_
    refine ro_bipush (v := -2) dX5_count_179 (by decide) ?_
    refine ro_iret rfl dX5_count_181 ?_
    refine ⟨?_, h, OnlySc.rf.all, rfl⟩
    show some (Value.int _) = some (Value.int (sp_count S _).1)
    first
      | (show some (Value.int 1) = some (Value.int (bI (decide (3 ≤ sc_dry (st_c S))))); rw [b131]; rfl)
      | (show some (Value.int 0) = some (Value.int (bI (decide (3 ≤ sc_dry (st_c S))))); rw [b131]; rfl)
      | rfl
      | (show some (Value.int (nI (orB (2 ^ ln_n (st_l S) - 1).testBit _ _))) = some (Value.int (nI (orB (fun _ => true) _ _))); rw [all_kn1 a1])
      | (have hn := sw11n hsw
         unfold sp_count
         dsimp only
         rw [if_neg hn.1, if_neg hn.2.1, if_neg hn.2.2.1, if_neg hn.2.2.2.1, if_neg hn.2.2.2.2.1, if_neg hn.2.2.2.2.2.1, if_neg hn.2.2.2.2.2.2.1, if_neg hn.2.2.2.2.2.2.2.1, if_neg hn.2.2.2.2.2.2.2.2.1, if_neg hn.2.2.2.2.2.2.2.2.2.1, if_neg hn.2.2.2.2.2.2.2.2.2.2.1, if_neg hn.2.2.2.2.2.2.2.2.2.2.2])
  · refine ro_tableIn 64 dX5_count_1 (by decide) (by decide) rfl (by decide) ?_
    refine ro_aload_n dX5_count_64 rfl rfl ?_
    refine gf_X5_letters  in_X5_count_X5 lk_X5_count_73 dX5_count_65 ?_
    rw [h.1]
    refine ro_iret rfl dX5_count_68 ?_
    refine ⟨?_, h, OnlySc.rf.all, rfl⟩
    show some (Value.int _) = some (Value.int (sp_count S _).1)
    first
      | (show some (Value.int 1) = some (Value.int (bI (decide (3 ≤ sc_dry (st_c S))))); rw [b131]; rfl)
      | (show some (Value.int 0) = some (Value.int (bI (decide (3 ≤ sc_dry (st_c S))))); rw [b131]; rfl)
      | rfl
      | (show some (Value.int (nI (orB (2 ^ ln_n (st_l S) - 1).testBit _ _))) = some (Value.int (nI (orB (fun _ => true) _ _))); rw [all_kn1 a1])
      | (have hn := sw11n hsw
         unfold sp_count
         dsimp only
         rw [if_neg hn.1, if_neg hn.2.1, if_neg hn.2.2.1, if_neg hn.2.2.2.1, if_neg hn.2.2.2.2.1, if_neg hn.2.2.2.2.2.1, if_neg hn.2.2.2.2.2.2.1, if_neg hn.2.2.2.2.2.2.2.1, if_neg hn.2.2.2.2.2.2.2.2.1, if_neg hn.2.2.2.2.2.2.2.2.2.1, if_neg hn.2.2.2.2.2.2.2.2.2.2.1, if_neg hn.2.2.2.2.2.2.2.2.2.2.2])
  · refine ro_tableIn 69 dX5_count_1 (by decide) (by decide) rfl (by decide) ?_
    refine ro_aload_n dX5_count_69 rfl rfl ?_
    refine gf_X5_told  in_X5_count_X5 lk_X5_count_38 dX5_count_70 ?_
    refine gf_X2_houses ln_16 in_X5_count_X2 lk_X5_count_93 dX5_count_73 ?_
    rw [hL.1]
    refine ro_iret rfl dX5_count_76 ?_
    refine ⟨?_, h, OnlySc.rf.all, rfl⟩
    show some (Value.int _) = some (Value.int (sp_count S _).1)
    first
      | (show some (Value.int 1) = some (Value.int (bI (decide (3 ≤ sc_dry (st_c S))))); rw [b131]; rfl)
      | (show some (Value.int 0) = some (Value.int (bI (decide (3 ≤ sc_dry (st_c S))))); rw [b131]; rfl)
      | rfl
      | (show some (Value.int (nI (orB (2 ^ ln_n (st_l S) - 1).testBit _ _))) = some (Value.int (nI (orB (fun _ => true) _ _))); rw [all_kn1 a1])
      | (have hn := sw11n hsw
         unfold sp_count
         dsimp only
         rw [if_neg hn.1, if_neg hn.2.1, if_neg hn.2.2.1, if_neg hn.2.2.2.1, if_neg hn.2.2.2.2.1, if_neg hn.2.2.2.2.2.1, if_neg hn.2.2.2.2.2.2.1, if_neg hn.2.2.2.2.2.2.2.1, if_neg hn.2.2.2.2.2.2.2.2.1, if_neg hn.2.2.2.2.2.2.2.2.2.1, if_neg hn.2.2.2.2.2.2.2.2.2.2.1, if_neg hn.2.2.2.2.2.2.2.2.2.2.2])
  · refine ro_tableIn 77 dX5_count_1 (by decide) (by decide) rfl (by decide) ?_
    refine ro_aload_n dX5_count_77 rfl rfl ?_
    refine gf_X5_told  in_X5_count_X5 lk_X5_count_38 dX5_count_78 ?_
    refine gf_X2_sayings ln_16 in_X5_count_X2 lk_X5_count_96 dX5_count_81 ?_
    rw [hL.2.1]
    refine ro_iret rfl dX5_count_84 ?_
    refine ⟨?_, h, OnlySc.rf.all, rfl⟩
    show some (Value.int _) = some (Value.int (sp_count S _).1)
    first
      | (show some (Value.int 1) = some (Value.int (bI (decide (3 ≤ sc_dry (st_c S))))); rw [b131]; rfl)
      | (show some (Value.int 0) = some (Value.int (bI (decide (3 ≤ sc_dry (st_c S))))); rw [b131]; rfl)
      | rfl
      | (show some (Value.int (nI (orB (2 ^ ln_n (st_l S) - 1).testBit _ _))) = some (Value.int (nI (orB (fun _ => true) _ _))); rw [all_kn1 a1])
      | (have hn := sw11n hsw
         unfold sp_count
         dsimp only
         rw [if_neg hn.1, if_neg hn.2.1, if_neg hn.2.2.1, if_neg hn.2.2.2.1, if_neg hn.2.2.2.2.1, if_neg hn.2.2.2.2.2.1, if_neg hn.2.2.2.2.2.2.1, if_neg hn.2.2.2.2.2.2.2.1, if_neg hn.2.2.2.2.2.2.2.2.1, if_neg hn.2.2.2.2.2.2.2.2.2.1, if_neg hn.2.2.2.2.2.2.2.2.2.2.1, if_neg hn.2.2.2.2.2.2.2.2.2.2.2])
  · refine ro_tableIn 85 dX5_count_1 (by decide) (by decide) rfl (by decide) ?_
    refine ro_aload_n dX5_count_85 rfl rfl ?_
    refine gf_X5_told  in_X5_count_X5 lk_X5_count_38 dX5_count_86 ?_
    refine gf_X2_rains ln_16 in_X5_count_X2 lk_X5_count_99 dX5_count_89 ?_
    rw [hL.2.2.1]
    refine ro_iret rfl dX5_count_92 ?_
    refine ⟨?_, h, OnlySc.rf.all, rfl⟩
    show some (Value.int _) = some (Value.int (sp_count S _).1)
    first
      | (show some (Value.int 1) = some (Value.int (bI (decide (3 ≤ sc_dry (st_c S))))); rw [b131]; rfl)
      | (show some (Value.int 0) = some (Value.int (bI (decide (3 ≤ sc_dry (st_c S))))); rw [b131]; rfl)
      | rfl
      | (show some (Value.int (nI (orB (2 ^ ln_n (st_l S) - 1).testBit _ _))) = some (Value.int (nI (orB (fun _ => true) _ _))); rw [all_kn1 a1])
      | (have hn := sw11n hsw
         unfold sp_count
         dsimp only
         rw [if_neg hn.1, if_neg hn.2.1, if_neg hn.2.2.1, if_neg hn.2.2.2.1, if_neg hn.2.2.2.2.1, if_neg hn.2.2.2.2.2.1, if_neg hn.2.2.2.2.2.2.1, if_neg hn.2.2.2.2.2.2.2.1, if_neg hn.2.2.2.2.2.2.2.2.1, if_neg hn.2.2.2.2.2.2.2.2.2.1, if_neg hn.2.2.2.2.2.2.2.2.2.2.1, if_neg hn.2.2.2.2.2.2.2.2.2.2.2])
  · refine ro_tableIn 93 dX5_count_1 (by decide) (by decide) rfl (by decide) ?_
    refine ro_aload_n dX5_count_93 rfl rfl ?_
    refine gf_X5_now  in_X5_count_X5 lk_X5_count_52 dX5_count_94 ?_
    refine gf_X4_hour sc_30 in_X5_count_X4 lk_X5_count_265 dX5_count_97 ?_
    rw [hS.2.2.2.2]
    refine ro_iret rfl dX5_count_100 ?_
    refine ⟨?_, h, OnlySc.rf.all, rfl⟩
    show some (Value.int _) = some (Value.int (sp_count S _).1)
    first
      | (show some (Value.int 1) = some (Value.int (bI (decide (3 ≤ sc_dry (st_c S))))); rw [b131]; rfl)
      | (show some (Value.int 0) = some (Value.int (bI (decide (3 ≤ sc_dry (st_c S))))); rw [b131]; rfl)
      | rfl
      | (show some (Value.int (nI (orB (2 ^ ln_n (st_l S) - 1).testBit _ _))) = some (Value.int (nI (orB (fun _ => true) _ _))); rw [all_kn1 a1])
      | (have hn := sw11n hsw
         unfold sp_count
         dsimp only
         rw [if_neg hn.1, if_neg hn.2.1, if_neg hn.2.2.1, if_neg hn.2.2.2.1, if_neg hn.2.2.2.2.1, if_neg hn.2.2.2.2.2.1, if_neg hn.2.2.2.2.2.2.1, if_neg hn.2.2.2.2.2.2.2.1, if_neg hn.2.2.2.2.2.2.2.2.1, if_neg hn.2.2.2.2.2.2.2.2.2.1, if_neg hn.2.2.2.2.2.2.2.2.2.2.1, if_neg hn.2.2.2.2.2.2.2.2.2.2.2])
  · refine ro_tableIn 101 dX5_count_1 (by decide) (by decide) rfl (by decide) ?_
    refine ro_aload_n dX5_count_101 rfl rfl ?_
    refine gf_X5_told  in_X5_count_X5 lk_X5_count_38 dX5_count_102 ?_
    refine ro_aload_n dX5_count_105 rfl rfl ?_
    refine gf_X5_now  in_X5_count_X5 lk_X5_count_52 dX5_count_106 ?_
    refine gf_X4_hour sc_30 in_X5_count_X4 lk_X5_count_265 dX5_count_109 ?_
    rw [hS.2.2.2.2]
    refine ro_callV1 ok_X2_rainAt (ct_rainAt (h := sc_hr (st_c S)) ln_16 hL okl (by have := oc.2.2.2.2.2; omega)) (ce_X2 ln_16) rfl rfl gX5_count_X2_rainAt (Nat.le_of_ble_eq_true rfl) (Nat.le_of_ble_eq_true rfl) dX5_count_112 ?_
    refine ro_iret rfl dX5_count_115 ?_
    refine ⟨?_, h, OnlySc.rf.all, rfl⟩
    show some (Value.int _) = some (Value.int (sp_count S _).1)
    first
      | (show some (Value.int 1) = some (Value.int (bI (decide (3 ≤ sc_dry (st_c S))))); rw [b131]; rfl)
      | (show some (Value.int 0) = some (Value.int (bI (decide (3 ≤ sc_dry (st_c S))))); rw [b131]; rfl)
      | rfl
      | (show some (Value.int (nI (orB (2 ^ ln_n (st_l S) - 1).testBit _ _))) = some (Value.int (nI (orB (fun _ => true) _ _))); rw [all_kn1 a1])
      | (have hn := sw11n hsw
         unfold sp_count
         dsimp only
         rw [if_neg hn.1, if_neg hn.2.1, if_neg hn.2.2.1, if_neg hn.2.2.2.1, if_neg hn.2.2.2.2.1, if_neg hn.2.2.2.2.2.1, if_neg hn.2.2.2.2.2.2.1, if_neg hn.2.2.2.2.2.2.2.1, if_neg hn.2.2.2.2.2.2.2.2.1, if_neg hn.2.2.2.2.2.2.2.2.2.1, if_neg hn.2.2.2.2.2.2.2.2.2.2.1, if_neg hn.2.2.2.2.2.2.2.2.2.2.2])
  · refine ro_tableIn 116 dX5_count_1 (by decide) (by decide) rfl (by decide) ?_
    refine ro_aload_n dX5_count_116 rfl rfl ?_
    refine gf_X5_now  in_X5_count_X5 lk_X5_count_52 dX5_count_117 ?_
    refine gf_X4_dry sc_30 in_X5_count_X4 lk_X5_count_271 dX5_count_120 ?_
    rw [hS.2.2.2.1]
    refine ro_iret rfl dX5_count_123 ?_
    refine ⟨?_, h, OnlySc.rf.all, rfl⟩
    show some (Value.int _) = some (Value.int (sp_count S _).1)
    first
      | (show some (Value.int 1) = some (Value.int (bI (decide (3 ≤ sc_dry (st_c S))))); rw [b131]; rfl)
      | (show some (Value.int 0) = some (Value.int (bI (decide (3 ≤ sc_dry (st_c S))))); rw [b131]; rfl)
      | rfl
      | (show some (Value.int (nI (orB (2 ^ ln_n (st_l S) - 1).testBit _ _))) = some (Value.int (nI (orB (fun _ => true) _ _))); rw [all_kn1 a1])
      | (have hn := sw11n hsw
         unfold sp_count
         dsimp only
         rw [if_neg hn.1, if_neg hn.2.1, if_neg hn.2.2.1, if_neg hn.2.2.2.1, if_neg hn.2.2.2.2.1, if_neg hn.2.2.2.2.2.1, if_neg hn.2.2.2.2.2.2.1, if_neg hn.2.2.2.2.2.2.2.1, if_neg hn.2.2.2.2.2.2.2.2.1, if_neg hn.2.2.2.2.2.2.2.2.2.1, if_neg hn.2.2.2.2.2.2.2.2.2.2.1, if_neg hn.2.2.2.2.2.2.2.2.2.2.2])
  · refine ro_tableIn 124 dX5_count_1 (by decide) (by decide) rfl (by decide) ?_
    refine ro_aload_n dX5_count_124 rfl rfl ?_
    refine gf_X5_now  in_X5_count_X5 lk_X5_count_52 dX5_count_125 ?_
    refine ro_callV0 ok_X4_areStrayed (ct_areStrayed sc_30 hS.2.2.2.1 oc.2.2.2.2.1) (ce_X4 sc_30) rfl rfl gX5_count_X4_areStrayed (Nat.le_of_ble_eq_true rfl) (Nat.le_of_ble_eq_true rfl) dX5_count_128 ?_
    refine ro_if_eq 138 dX5_count_131 (by decide) (fun b131 => ?_) (fun b131 => ?_)
    · rw [bI_eq0] at b131
      refine ro_iconst (v := 0) dX5_count_138 (by decide) ?_
      refine ro_iret rfl dX5_count_139 ?_
      refine ⟨?_, h, OnlySc.rf.all, rfl⟩
      show some (Value.int _) = some (Value.int (sp_count S _).1)
      first
        | (show some (Value.int 1) = some (Value.int (bI (decide (3 ≤ sc_dry (st_c S))))); rw [b131]; rfl)
        | (show some (Value.int 0) = some (Value.int (bI (decide (3 ≤ sc_dry (st_c S))))); rw [b131]; rfl)
        | rfl
        | (show some (Value.int (nI (orB (2 ^ ln_n (st_l S) - 1).testBit _ _))) = some (Value.int (nI (orB (fun _ => true) _ _))); rw [all_kn1 a1])
        | (have hn := sw11n hsw
           unfold sp_count
           dsimp only
           rw [if_neg hn.1, if_neg hn.2.1, if_neg hn.2.2.1, if_neg hn.2.2.2.1, if_neg hn.2.2.2.2.1, if_neg hn.2.2.2.2.2.1, if_neg hn.2.2.2.2.2.2.1, if_neg hn.2.2.2.2.2.2.2.1, if_neg hn.2.2.2.2.2.2.2.2.1, if_neg hn.2.2.2.2.2.2.2.2.2.1, if_neg hn.2.2.2.2.2.2.2.2.2.2.1, if_neg hn.2.2.2.2.2.2.2.2.2.2.2])
    · rw [bI_ne0] at b131
      refine ro_iconst (v := 1) dX5_count_134 (by decide) ?_
      refine ro_goto 139 dX5_count_135 (by decide) ?_
      refine ro_iret rfl dX5_count_139 ?_
      refine ⟨?_, h, OnlySc.rf.all, rfl⟩
      show some (Value.int _) = some (Value.int (sp_count S _).1)
      first
        | (show some (Value.int 1) = some (Value.int (bI (decide (3 ≤ sc_dry (st_c S))))); rw [b131]; rfl)
        | (show some (Value.int 0) = some (Value.int (bI (decide (3 ≤ sc_dry (st_c S))))); rw [b131]; rfl)
        | rfl
        | (show some (Value.int (nI (orB (2 ^ ln_n (st_l S) - 1).testBit _ _))) = some (Value.int (nI (orB (fun _ => true) _ _))); rw [all_kn1 a1])
        | (have hn := sw11n hsw
           unfold sp_count
           dsimp only
           rw [if_neg hn.1, if_neg hn.2.1, if_neg hn.2.2.1, if_neg hn.2.2.2.1, if_neg hn.2.2.2.2.1, if_neg hn.2.2.2.2.2.1, if_neg hn.2.2.2.2.2.2.1, if_neg hn.2.2.2.2.2.2.2.1, if_neg hn.2.2.2.2.2.2.2.2.1, if_neg hn.2.2.2.2.2.2.2.2.2.1, if_neg hn.2.2.2.2.2.2.2.2.2.2.1, if_neg hn.2.2.2.2.2.2.2.2.2.2.2])
  · refine ro_tableIn 140 dX5_count_1 (by decide) (by decide) rfl (by decide) ?_
    refine ro_aload_n dX5_count_140 rfl rfl ?_
    refine gf_X5_now  in_X5_count_X5 lk_X5_count_52 dX5_count_141 ?_
    refine ro_aload_n dX5_count_144 rfl rfl ?_
    refine gf_X5_told  in_X5_count_X5 lk_X5_count_38 dX5_count_145 ?_
    refine ro_callV0 ok_X2_allHouses (ct_allHouses ln_16 hL.1 a1) (ce_X2 ln_16) rfl rfl gX5_count_X2_allHouses (Nat.le_of_ble_eq_true rfl) (Nat.le_of_ble_eq_true rfl) dX5_count_148 ?_
    refine ro_callV1 ok_X4_knownBy (ct_knownBy sc_30 hL okl hS oc (by omega) (by omega)) (ce_X4 sc_30) rfl rfl gX5_count_X4_knownBy (Nat.le_of_ble_eq_true rfl) (Nat.le_of_ble_eq_true rfl) dX5_count_151 ?_
    refine ro_iret rfl dX5_count_154 ?_
    refine ⟨?_, h, OnlySc.rf.all, rfl⟩
    show some (Value.int _) = some (Value.int (sp_count S _).1)
    first
      | (show some (Value.int 1) = some (Value.int (bI (decide (3 ≤ sc_dry (st_c S))))); rw [b131]; rfl)
      | (show some (Value.int 0) = some (Value.int (bI (decide (3 ≤ sc_dry (st_c S))))); rw [b131]; rfl)
      | rfl
      | (show some (Value.int (nI (orB (2 ^ ln_n (st_l S) - 1).testBit _ _))) = some (Value.int (nI (orB (fun _ => true) _ _))); rw [all_kn1 a1])
      | (have hn := sw11n hsw
         unfold sp_count
         dsimp only
         rw [if_neg hn.1, if_neg hn.2.1, if_neg hn.2.2.1, if_neg hn.2.2.2.1, if_neg hn.2.2.2.2.1, if_neg hn.2.2.2.2.2.1, if_neg hn.2.2.2.2.2.2.1, if_neg hn.2.2.2.2.2.2.2.1, if_neg hn.2.2.2.2.2.2.2.2.1, if_neg hn.2.2.2.2.2.2.2.2.2.1, if_neg hn.2.2.2.2.2.2.2.2.2.2.1, if_neg hn.2.2.2.2.2.2.2.2.2.2.2])
  · refine ro_tableIn 155 dX5_count_1 (by decide) (by decide) rfl (by decide) ?_
    refine ro_aload_n dX5_count_155 rfl rfl ?_
    refine gf_X5_now  in_X5_count_X5 lk_X5_count_52 dX5_count_156 ?_
    refine ro_callV0 ok_X4_housesThatHear (ct_hearNow sc_30 hL okl hS oc (by omega)) (ce_X4 sc_30) rfl rfl gX5_count_X4_housesThatHear (Nat.le_of_ble_eq_true rfl) (Nat.le_of_ble_eq_true rfl) dX5_count_159 ?_
    refine ro_iret rfl dX5_count_162 ?_
    refine ⟨?_, h, OnlySc.rf.all, rfl⟩
    show some (Value.int _) = some (Value.int (sp_count S _).1)
    first
      | (show some (Value.int 1) = some (Value.int (bI (decide (3 ≤ sc_dry (st_c S))))); rw [b131]; rfl)
      | (show some (Value.int 0) = some (Value.int (bI (decide (3 ≤ sc_dry (st_c S))))); rw [b131]; rfl)
      | rfl
      | (show some (Value.int (nI (orB (2 ^ ln_n (st_l S) - 1).testBit _ _))) = some (Value.int (nI (orB (fun _ => true) _ _))); rw [all_kn1 a1])
      | (have hn := sw11n hsw
         unfold sp_count
         dsimp only
         rw [if_neg hn.1, if_neg hn.2.1, if_neg hn.2.2.1, if_neg hn.2.2.2.1, if_neg hn.2.2.2.2.1, if_neg hn.2.2.2.2.2.1, if_neg hn.2.2.2.2.2.2.1, if_neg hn.2.2.2.2.2.2.2.1, if_neg hn.2.2.2.2.2.2.2.2.1, if_neg hn.2.2.2.2.2.2.2.2.2.1, if_neg hn.2.2.2.2.2.2.2.2.2.2.1, if_neg hn.2.2.2.2.2.2.2.2.2.2.2])
  · refine ro_tableIn 163 dX5_count_1 (by decide) (by decide) rfl (by decide) ?_
    refine ro_aload_n dX5_count_163 rfl rfl ?_
    refine gf_X5_acts  in_X5_count_X5 lk_X5_count_62 dX5_count_164 ?_
    refine gf_X0_size  in_X5_count_X0 lk_X5_count_167 dX5_count_167 ?_
    obtain ⟨o7, z1, z2, z3, z4, z5⟩ := id hA
    rw [z3]
    refine ro_iret rfl dX5_count_170 ?_
    refine ⟨?_, h, OnlySc.rf.all, rfl⟩
    show some (Value.int _) = some (Value.int (sp_count S _).1)
    first
      | (show some (Value.int 1) = some (Value.int (bI (decide (3 ≤ sc_dry (st_c S))))); rw [b131]; rfl)
      | (show some (Value.int 0) = some (Value.int (bI (decide (3 ≤ sc_dry (st_c S))))); rw [b131]; rfl)
      | rfl
      | (show some (Value.int (nI (orB (2 ^ ln_n (st_l S) - 1).testBit _ _))) = some (Value.int (nI (orB (fun _ => true) _ _))); rw [all_kn1 a1])
      | (have hn := sw11n hsw
         unfold sp_count
         dsimp only
         rw [if_neg hn.1, if_neg hn.2.1, if_neg hn.2.2.1, if_neg hn.2.2.2.1, if_neg hn.2.2.2.2.1, if_neg hn.2.2.2.2.2.1, if_neg hn.2.2.2.2.2.2.1, if_neg hn.2.2.2.2.2.2.2.1, if_neg hn.2.2.2.2.2.2.2.2.1, if_neg hn.2.2.2.2.2.2.2.2.2.1, if_neg hn.2.2.2.2.2.2.2.2.2.2.1, if_neg hn.2.2.2.2.2.2.2.2.2.2.2])
  · refine ro_tableIn 171 dX5_count_1 (by decide) (by decide) rfl (by decide) ?_
    refine ro_aload_n dX5_count_171 rfl rfl ?_
    refine gf_X5_heardSayings  in_X5_count_X5 lk_X5_count_69 dX5_count_172 ?_
    refine gf_X1_size  in_X5_count_X1 lk_X5_count_219 dX5_count_175 ?_
    rw [h.2.2.2.2.2.2.1.1]
    refine ro_iret rfl dX5_count_178 ?_
    refine ⟨?_, h, OnlySc.rf.all, rfl⟩
    show some (Value.int _) = some (Value.int (sp_count S _).1)
    first
      | (show some (Value.int 1) = some (Value.int (bI (decide (3 ≤ sc_dry (st_c S))))); rw [b131]; rfl)
      | (show some (Value.int 0) = some (Value.int (bI (decide (3 ≤ sc_dry (st_c S))))); rw [b131]; rfl)
      | rfl
      | (show some (Value.int (nI (orB (2 ^ ln_n (st_l S) - 1).testBit _ _))) = some (Value.int (nI (orB (fun _ => true) _ _))); rw [all_kn1 a1])
      | (have hn := sw11n hsw
         unfold sp_count
         dsimp only
         rw [if_neg hn.1, if_neg hn.2.1, if_neg hn.2.2.1, if_neg hn.2.2.2.1, if_neg hn.2.2.2.2.1, if_neg hn.2.2.2.2.2.1, if_neg hn.2.2.2.2.2.2.1, if_neg hn.2.2.2.2.2.2.2.1, if_neg hn.2.2.2.2.2.2.2.2.1, if_neg hn.2.2.2.2.2.2.2.2.2.1, if_neg hn.2.2.2.2.2.2.2.2.2.2.1, if_neg hn.2.2.2.2.2.2.2.2.2.2.2])
/-- as QC, for an answer that is a long -/
def QCl (M : MM) (L : LL) (rs : Int64 × ST) : Option Value → MM → LL → Prop := fun v M' L' => v = some (.long rs.1) ∧ RC M' L' rs.2 ∧ OnlyB 0 101 M M' ∧ L' 102 = L 102
def sp_seed (S : ST) (z : Int64) : Int64 × ST := (st_s S, setS S z)
theorem RC.seed {M : MM} {L L' : LL} {S : ST} {z : Int64} (h : RC M L S) (hz : L' 0 = z) : RC M L' (setS S z) := ⟨h.1, h.2.1, h.2.2.1, h.2.2.2.1, h.2.2.2.2.1, h.2.2.2.2.2.1, h.2.2.2.2.2.2.1, hz⟩
theorem ct_seed {g : GT} {M : MM} {L : LL} {S : ST} {b : Nat} {z : Int64} (h : RC M L S) (ok : StOK b S) : CTQ g mX5_seed 0 [.ref (dq_A g 0), .long z] M L (QCl M L (sp_seed S z)) := by
  refine ct_of ok_X5_seed (lv := [some (.ref (dq_A g 0)), some (.long z), none, none, none]) rfl (Nat.le_of_ble_eq_true rfl) ?_
  refine ro_aload_n dX5_seed_0 rfl rfl ?_
  refine gf_X5_seedNow  in_X5_seed_X5 lk_X5_seed_249 dX5_seed_1 ?_
  rw [h.2.2.2.2.2.2.2]
  refine ro_lstore_n3 dX5_seed_4 (Nat.le_of_ble_eq_true rfl) rfl ?_
  refine ro_aload_n dX5_seed_5 rfl rfl ?_
  refine ro_lload_n dX5_seed_6 rfl rfl ?_
  refine pf_X5_seedNow  in_X5_seed_X5 lk_X5_seed_249  dX5_seed_7 (fun L7 e7 => ?_)
  refine ro_lload_n dX5_seed_10 rfl rfl ?_
  refine ro_lret rfl dX5_seed_11 ?_
  exact ⟨rfl, h.seed (by rw [e7, va_up_self]), OnlySc.rf.all, by rw [e7, va_up_ne _ _ (by decide)]⟩
