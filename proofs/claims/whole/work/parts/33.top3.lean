def fewB (b : Option Nat) (g : Nat) : Bool := match b with
  | none => true
  | some b => decide (pop g < pop b)
def tlF (n th : Nat) (kn : Nat → Nat) : Nat → Option Nat
  | 0 => none
  | g + 1 => if fewB (tlF n th kn g) g = true ∧ orB g.testBit kn n ||| th = orB g.testBit kn n then some g else tlF n th kn g
theorem tlF_lt {n th : Nat} {kn : Nat → Nat} : ∀ {g b : Nat}, tlF n th kn g = some b → b < g
  | 0, b, h => by cases h
  | g + 1, b, h => by
    rw [tlF] at h
    split at h
    · cases h; omega
    · have := tlF_lt h; omega
def bE (o : Option Nat) : Int32 := match o with
  | none => -9
  | some b => nI b
theorem nI_ne9 {b : Nat} (h : b < 2 ^ 31) : ¬ nI b = -9 := by
  intro z
  have z2 := congrArg Int32.toInt z
  rw [nI_toInt h] at z2
  have z3 : (-9 : Int32).toInt = -9 := by decide
  omega
def sp_tells (S : ST) (x w : Int32) : Int32 × ST := (if hB 64 x = true ∧ zo w = true then (match tlF (ln_n (st_l S)) (kx x) (sc_kn (st_c S)) (2 ^ ln_n (st_l S)) with
  | none => -9
  | some b => if w = 0 then nI (pop b) else nI b) else -2, S)
theorem lp_tells {g : GT} {M : MM} {L : LL} {b : Nat} {ln : LN} {c : SC} {th : Nat} {w : Int32} (hL : LaneR M 16 ln) (ok : LnOK ln) (hS : SceneR M 30 c) (oc : ScOK (ln_n ln) b c) (hb : b < 2 ^ 30) (ht : th < 64) : ∀ (k i : Nat), i + k = 2 ^ ln_n ln → ∀ x5 : Option Value, JW g mX5_tells 1 (Rt (some (.int (match tlF (ln_n ln) th (sc_kn c) (2 ^ ln_n ln) with | none => (-9 : Int32) | some b => if w = 0 then nI (pop b) else nI b))) M L) M L 26 [some (.ref (dq_A g 0)), some (.int (nI th)), some (.int w), some (.int (bE (tlF (ln_n ln) th (sc_kn c) i))), some (.int (nI i)), x5] [] := by
  have a1 := ok.1
  have h32 : 2 ^ ln_n ln ≤ 32 := Nat.le_trans (Nat.pow_le_pow_right (by decide) a1) (by decide)
  have hpos : 0 < 2 ^ ln_n ln := Nat.two_pow_pos _
  intro k
  induction k with
  | zero =>
    intro i hi x5
    have e : i = 2 ^ ln_n ln := by omega
    cases hbb : tlF (ln_n ln) th (sc_kn c) i with
    | none =>
      rw [e] at hbb
      rw [e]
      refine ro_iload dX5_tells_26 rfl ?_
      refine ro_aload_n dX5_tells_28 rfl rfl ?_
      refine gf_X5_told  in_X5_tells_X5 lk_X5_tells_38 dX5_tells_29 ?_
      refine ro_callV0 ok_X2_allHouses (ct_allHouses ln_16 hL.1 a1) (ce_X2 ln_16) rfl rfl gX5_tells_X2_allHouses (Nat.le_of_ble_eq_true rfl) (Nat.le_of_ble_eq_true rfl) dX5_tells_32 ?_
      refine ro_icmp_gt 93 dX5_tells_35 (by decide) (fun b35 => ?_) (fun b35 => ?_)
      · refine ro_iload_n dX5_tells_93 rfl rfl ?_
        refine ro_bipush (v := -9) dX5_tells_94 (by decide) ?_
        refine ro_icmp_ne 102 dX5_tells_96 (by decide) (fun b96 => ?_) (fun b96 => ?_)
        · exact absurd rfl b96
        · refine ro_bipush (v := -9) dX5_tells_99 (by decide) ?_
          refine ro_iret rfl dX5_tells_101 ?_
          exact ⟨by rw [hbb], rfl, rfl⟩
      · exact absurd (nI_lt (by omega) (by omega)) b35
    | some q =>
      have hq := tlF_lt hbb
      rw [e] at hbb hq
      rw [e]
      refine ro_iload dX5_tells_26 rfl ?_
      refine ro_aload_n dX5_tells_28 rfl rfl ?_
      refine gf_X5_told  in_X5_tells_X5 lk_X5_tells_38 dX5_tells_29 ?_
      refine ro_callV0 ok_X2_allHouses (ct_allHouses ln_16 hL.1 a1) (ce_X2 ln_16) rfl rfl gX5_tells_X2_allHouses (Nat.le_of_ble_eq_true rfl) (Nat.le_of_ble_eq_true rfl) dX5_tells_32 ?_
      refine ro_icmp_gt 93 dX5_tells_35 (by decide) (fun b35 => ?_) (fun b35 => ?_)
      · refine ro_iload_n dX5_tells_93 rfl rfl ?_
        refine ro_bipush (v := -9) dX5_tells_94 (by decide) ?_
        refine ro_icmp_ne 102 dX5_tells_96 (by decide) (fun b96 => ?_) (fun b96 => ?_)
        · refine ro_iload_n dX5_tells_102 rfl rfl ?_
          refine ro_if_ne 113 dX5_tells_103 (by decide) (fun b103 => ?_) (fun b103 => ?_)
          · refine ro_iload_n dX5_tells_113 rfl rfl ?_
            refine ro_iret rfl dX5_tells_114 ?_
            exact ⟨by rw [hbb]; first | (simp only [if_pos b103]; done) | (simp only [if_neg b103]; rfl), rfl, rfl⟩
          · refine ro_iload_n dX5_tells_106 rfl rfl ?_
            refine ro_callS1 ok_J6_bitCount_0f7a4 (ct_bitCount (a := q) (by omega)) gX5_tells_J6_bitCount_0f7a4 (Nat.le_of_ble_eq_true rfl) (Nat.le_of_ble_eq_true rfl) dX5_tells_107 ?_
            refine ro_goto 114 dX5_tells_110 (by decide) ?_
            refine ro_iret rfl dX5_tells_114 ?_
            exact ⟨by rw [hbb]; first | (simp only [if_pos b103]; done) | (simp only [if_neg b103]; rfl), rfl, rfl⟩
        · exact absurd b96 (nI_ne9 (by omega))
      · exact absurd (nI_lt (by omega) (by omega)) b35
  | succ k ih =>
    intro i hi x5
    have hkn : orB i.testBit (sc_kn c) (ln_n ln) < 64 := orB_lt (w := 6) (fun k _ => oc.2.2.1 k)
    cases hbb : tlF (ln_n ln) th (sc_kn c) i with
    | none =>
      refine ro_iload dX5_tells_26 rfl ?_
      refine ro_aload_n dX5_tells_28 rfl rfl ?_
      refine gf_X5_told  in_X5_tells_X5 lk_X5_tells_38 dX5_tells_29 ?_
      refine ro_callV0 ok_X2_allHouses (ct_allHouses ln_16 hL.1 a1) (ce_X2 ln_16) rfl rfl gX5_tells_X2_allHouses (Nat.le_of_ble_eq_true rfl) (Nat.le_of_ble_eq_true rfl) dX5_tells_32 ?_
      refine ro_icmp_gt 93 dX5_tells_35 (by decide) (fun b35 => ?_) (fun b35 => ?_)
      · exact absurd b35 (nI_nlt (by omega) (by omega))
      · refine ro_iload_n dX5_tells_38 rfl rfl ?_
        refine ro_bipush (v := -9) dX5_tells_39 (by decide) ?_
        refine ro_icmp_eq 56 dX5_tells_41 (by decide) (fun b41 => ?_) (fun b41 => ?_)
        · have few : fewB (tlF (ln_n ln) th (sc_kn c) i) i = true := by rw [hbb]; rfl
          refine ro_iconst (v := 1) dX5_tells_56 (by decide) ?_
          refine ro_goto 61 dX5_tells_57 (by decide) ?_
          refine ro_istore5 dX5_tells_61 (Nat.le_of_ble_eq_true rfl) rfl ?_
          refine ro_iload dX5_tells_63 rfl ?_
          refine ro_if_eq 87 dX5_tells_65 (by decide) (fun b65 => ?_) (fun b65 => ?_)
          · exact absurd b65 (by decide)
          · refine ro_iload_n dX5_tells_68 rfl rfl ?_
            refine ro_aload_n dX5_tells_69 rfl rfl ?_
            refine gf_X5_now  in_X5_tells_X5 lk_X5_tells_52 dX5_tells_70 ?_
            refine ro_iload dX5_tells_73 rfl ?_
            refine ro_callV1 ok_X4_knownBy (ct_knownBy sc_30 hL ok hS oc hb (by omega)) (ce_X4 sc_30) rfl rfl gX5_tells_X4_knownBy (Nat.le_of_ble_eq_true rfl) (Nat.le_of_ble_eq_true rfl) dX5_tells_75 ?_
            refine ro_iconst (v := -1) dX5_tells_78 (by decide) ?_
            refine ro_ixor dX5_tells_79 ?_
            refine ro_iand dX5_tells_80 ?_
            refine ro_if_ne 87 dX5_tells_81 (by decide) (fun b81 => ?_) (fun b81 => ?_)
            · rw [bt_sub th ht _ hkn] at b81
              refine ro_iincP4 dX5_tells_87 (Nat.le_of_ble_eq_true rfl) rfl ?_
              refine ro_goto 26 dX5_tells_90 (by decide) ?_
              rw [nI_1]
              first
                | (have z := ih (i + 1) (by omega) (some (.int 1))
                   rw [tlF, if_pos ⟨few, b81⟩] at z
                   exact z)
                | (have z := ih (i + 1) (by omega) (some (.int 1))
                   rw [tlF, if_neg (fun y => b81 y.2), hbb] at z
                   exact z)
                | (have z := ih (i + 1) (by omega) (some (.int 0))
                   rw [tlF, if_neg (fun y => by rw [few] at y; exact absurd y.1 (by decide)), hbb] at z
                   exact z)
            · rw [bt_sub th ht _ hkn] at b81
              refine ro_iload dX5_tells_84 rfl ?_
              refine ro_istore_n3 dX5_tells_86 (Nat.le_of_ble_eq_true rfl) rfl ?_
              refine ro_iincP4 dX5_tells_87 (Nat.le_of_ble_eq_true rfl) rfl ?_
              refine ro_goto 26 dX5_tells_90 (by decide) ?_
              rw [nI_1]
              first
                | (have z := ih (i + 1) (by omega) (some (.int 1))
                   rw [tlF, if_pos ⟨few, b81⟩] at z
                   exact z)
                | (have z := ih (i + 1) (by omega) (some (.int 1))
                   rw [tlF, if_neg (fun y => b81 y.2), hbb] at z
                   exact z)
                | (have z := ih (i + 1) (by omega) (some (.int 0))
                   rw [tlF, if_neg (fun y => by rw [few] at y; exact absurd y.1 (by decide)), hbb] at z
                   exact z)
        · exact absurd rfl b41
    | some q =>
      have hq := tlF_lt hbb
      refine ro_iload dX5_tells_26 rfl ?_
      refine ro_aload_n dX5_tells_28 rfl rfl ?_
      refine gf_X5_told  in_X5_tells_X5 lk_X5_tells_38 dX5_tells_29 ?_
      refine ro_callV0 ok_X2_allHouses (ct_allHouses ln_16 hL.1 a1) (ce_X2 ln_16) rfl rfl gX5_tells_X2_allHouses (Nat.le_of_ble_eq_true rfl) (Nat.le_of_ble_eq_true rfl) dX5_tells_32 ?_
      refine ro_icmp_gt 93 dX5_tells_35 (by decide) (fun b35 => ?_) (fun b35 => ?_)
      · exact absurd b35 (nI_nlt (by omega) (by omega))
      · refine ro_iload_n dX5_tells_38 rfl rfl ?_
        refine ro_bipush (v := -9) dX5_tells_39 (by decide) ?_
        refine ro_icmp_eq 56 dX5_tells_41 (by decide) (fun b41 => ?_) (fun b41 => ?_)
        · exact absurd b41 (nI_ne9 (by omega))
        · refine ro_iload dX5_tells_44 rfl ?_
          refine ro_callS1 ok_J6_bitCount_0f7a4 (ct_bitCount (by omega)) gX5_tells_J6_bitCount_0f7a4 (Nat.le_of_ble_eq_true rfl) (Nat.le_of_ble_eq_true rfl) dX5_tells_46 ?_
          refine ro_iload_n dX5_tells_49 rfl rfl ?_
          refine ro_callS1 ok_J6_bitCount_0f7a4 (ct_bitCount (a := q) (by omega)) gX5_tells_J6_bitCount_0f7a4 (Nat.le_of_ble_eq_true rfl) (Nat.le_of_ble_eq_true rfl) dX5_tells_50 ?_
          refine ro_icmp_ge 60 dX5_tells_53 (by decide) (fun b53 => ?_) (fun b53 => ?_)
          · rw [nI_leI (by have := pop_lt q; omega) (by have := pop_lt i; omega)] at b53
            have few : fewB (tlF (ln_n ln) th (sc_kn c) i) i = false := by rw [hbb]; exact decide_eq_false (by omega)
            refine ro_iconst (v := 0) dX5_tells_60 (by decide) ?_
            refine ro_istore5 dX5_tells_61 (Nat.le_of_ble_eq_true rfl) rfl ?_
            refine ro_iload dX5_tells_63 rfl ?_
            refine ro_if_eq 87 dX5_tells_65 (by decide) (fun b65 => ?_) (fun b65 => ?_)
            · refine ro_iincP4 dX5_tells_87 (Nat.le_of_ble_eq_true rfl) rfl ?_
              refine ro_goto 26 dX5_tells_90 (by decide) ?_
              rw [nI_1]
              first
                | (have z := ih (i + 1) (by omega) (some (.int 1))
                   rw [tlF, if_pos ⟨few, b81⟩] at z
                   exact z)
                | (have z := ih (i + 1) (by omega) (some (.int 1))
                   rw [tlF, if_neg (fun y => b81 y.2), hbb] at z
                   exact z)
                | (have z := ih (i + 1) (by omega) (some (.int 0))
                   rw [tlF, if_neg (fun y => by rw [few] at y; exact absurd y.1 (by decide)), hbb] at z
                   exact z)
            · exact absurd b65 (by decide)
          · rw [nI_leI (by have := pop_lt q; omega) (by have := pop_lt i; omega)] at b53
            have few : fewB (tlF (ln_n ln) th (sc_kn c) i) i = true := by rw [hbb]; exact decide_eq_true (by omega)
            refine ro_iconst (v := 1) dX5_tells_56 (by decide) ?_
            refine ro_goto 61 dX5_tells_57 (by decide) ?_
            refine ro_istore5 dX5_tells_61 (Nat.le_of_ble_eq_true rfl) rfl ?_
            refine ro_iload dX5_tells_63 rfl ?_
            refine ro_if_eq 87 dX5_tells_65 (by decide) (fun b65 => ?_) (fun b65 => ?_)
            · exact absurd b65 (by decide)
            · refine ro_iload_n dX5_tells_68 rfl rfl ?_
              refine ro_aload_n dX5_tells_69 rfl rfl ?_
              refine gf_X5_now  in_X5_tells_X5 lk_X5_tells_52 dX5_tells_70 ?_
              refine ro_iload dX5_tells_73 rfl ?_
              refine ro_callV1 ok_X4_knownBy (ct_knownBy sc_30 hL ok hS oc hb (by omega)) (ce_X4 sc_30) rfl rfl gX5_tells_X4_knownBy (Nat.le_of_ble_eq_true rfl) (Nat.le_of_ble_eq_true rfl) dX5_tells_75 ?_
              refine ro_iconst (v := -1) dX5_tells_78 (by decide) ?_
              refine ro_ixor dX5_tells_79 ?_
              refine ro_iand dX5_tells_80 ?_
              refine ro_if_ne 87 dX5_tells_81 (by decide) (fun b81 => ?_) (fun b81 => ?_)
              · rw [bt_sub th ht _ hkn] at b81
                refine ro_iincP4 dX5_tells_87 (Nat.le_of_ble_eq_true rfl) rfl ?_
                refine ro_goto 26 dX5_tells_90 (by decide) ?_
                rw [nI_1]
                first
                  | (have z := ih (i + 1) (by omega) (some (.int 1))
                     rw [tlF, if_pos ⟨few, b81⟩] at z
                     exact z)
                  | (have z := ih (i + 1) (by omega) (some (.int 1))
                     rw [tlF, if_neg (fun y => b81 y.2), hbb] at z
                     exact z)
                  | (have z := ih (i + 1) (by omega) (some (.int 0))
                     rw [tlF, if_neg (fun y => by rw [few] at y; exact absurd y.1 (by decide)), hbb] at z
                     exact z)
              · rw [bt_sub th ht _ hkn] at b81
                refine ro_iload dX5_tells_84 rfl ?_
                refine ro_istore_n3 dX5_tells_86 (Nat.le_of_ble_eq_true rfl) rfl ?_
                refine ro_iincP4 dX5_tells_87 (Nat.le_of_ble_eq_true rfl) rfl ?_
                refine ro_goto 26 dX5_tells_90 (by decide) ?_
                rw [nI_1]
                first
                  | (have z := ih (i + 1) (by omega) (some (.int 1))
                     rw [tlF, if_pos ⟨few, b81⟩] at z
                     exact z)
                  | (have z := ih (i + 1) (by omega) (some (.int 1))
                     rw [tlF, if_neg (fun y => b81 y.2), hbb] at z
                     exact z)
                  | (have z := ih (i + 1) (by omega) (some (.int 0))
                     rw [tlF, if_neg (fun y => by rw [few] at y; exact absurd y.1 (by decide)), hbb] at z
                     exact z)
theorem ct_tells {g : GT} {M : MM} {L : LL} {S : ST} {b : Nat} {x w : Int32} (h : RC M L S) (ok : StOK b S) : CTQ g mX5_tells 1 [.ref (dq_A g 0), .int x, .int w] M L (QC M L (sp_tells S x w)) := by
  have hL := h.2.2.1
  have hS := h.2.2.2.1
  have hA := h.2.2.2.2.1
  have okl := ok.2.2.1
  have oc := ok.2.2.2.1
  have a1 := okl.1
  have hb := ok.2.2.2.2.2.2.2
  have h64 := ok.1
  refine ct_of ok_X5_tells (lv := [some (.ref (dq_A g 0)), some (.int x), some (.int w), none, none, none]) rfl (Nat.le_of_ble_eq_true rfl) ?_
  refine ro_iload_n dX5_tells_0 rfl rfl ?_
  refine ro_if_lt 17 dX5_tells_1 (by decide) (fun b1 => ?_) (fun b1 => ?_)
  · refine ro_bipush (v := -2) dX5_tells_17 (by decide) ?_
    refine ro_iret rfl dX5_tells_19 ?_
    rw [show sp_tells S x w = (-2, S) from by
      unfold sp_tells
      rw [if_neg (fun z => ?_)]
      obtain ⟨k, hk, rfl⟩ := hB_some (by omega) z.1
      first
        | exact nI_pos (by omega) b1
        | exact nI_nlt (a := 63) (by omega) (by decide) b7
        | (rw [b14] at z; exact absurd z.2 (by decide))]
    exact ⟨rfl, h, OnlySc.rf.all, rfl⟩
  · refine ro_iload_n dX5_tells_4 rfl rfl ?_
    refine ro_bipush (v := 63) dX5_tells_5 (by decide) ?_
    refine ro_icmp_gt 17 dX5_tells_7 (by decide) (fun b7 => ?_) (fun b7 => ?_)
    · refine ro_bipush (v := -2) dX5_tells_17 (by decide) ?_
      refine ro_iret rfl dX5_tells_19 ?_
      rw [show sp_tells S x w = (-2, S) from by
        unfold sp_tells
        rw [if_neg (fun z => ?_)]
        obtain ⟨k, hk, rfl⟩ := hB_some (by omega) z.1
        first
          | exact nI_pos (by omega) b1
          | exact nI_nlt (a := 63) (by omega) (by decide) b7
          | (rw [b14] at z; exact absurd z.2 (by decide))]
      exact ⟨rfl, h, OnlySc.rf.all, rfl⟩
    · refine ro_iload_n dX5_tells_10 rfl rfl ?_
      refine ro_callS1 ok_X5_isZeroOrOne (ct_zo w) gX5_tells_X5_isZeroOrOne (Nat.le_of_ble_eq_true rfl) (Nat.le_of_ble_eq_true rfl) dX5_tells_11 ?_
      refine ro_if_ne 20 dX5_tells_14 (by decide) (fun b14 => ?_) (fun b14 => ?_)
      · rw [bI_ne0] at b14
        obtain ⟨k, hk, rfl⟩ := nI_of2 (M := 63) (n := 63) rfl b1 (Int32.not_lt.mp b7)
        have hb64 : hB 64 (nI k) = true := by rw [hB_nI (by omega) (by omega)]; exact decide_eq_true (by omega)
        refine ro_bipush (v := -9) dX5_tells_20 (by decide) ?_
        refine ro_istore_n3 dX5_tells_22 (Nat.le_of_ble_eq_true rfl) rfl ?_
        refine ro_iconst (v := 0) dX5_tells_23 (by decide) ?_
        refine ro_istore4 dX5_tells_24 (Nat.le_of_ble_eq_true rfl) rfl ?_
        refine JW.mono ?_ (lp_tells (th := k) (w := w) hL okl hS oc (by omega) (by omega) (2 ^ ln_n (st_l S)) 0 (by omega) none)
        rintro v M' L' ⟨rfl, rfl, rfl⟩
        refine ⟨?_, h, OnlySc.rf.all, rfl⟩
        show _ = some (Value.int (sp_tells S (nI k) w).1)
        unfold sp_tells
        rw [if_pos ⟨hb64, b14⟩, kx_nI (by omega)]
      · rw [bI_eq0] at b14
        refine ro_bipush (v := -2) dX5_tells_17 (by decide) ?_
        refine ro_iret rfl dX5_tells_19 ?_
        rw [show sp_tells S x w = (-2, S) from by
          unfold sp_tells
          rw [if_neg (fun z => ?_)]
          obtain ⟨k, hk, rfl⟩ := hB_some (by omega) z.1
          first
            | exact nI_pos (by omega) b1
            | exact nI_nlt (a := 63) (by omega) (by decide) b7
            | (rw [b14] at z; exact absurd z.2 (by decide))]
        exact ⟨rfl, h, OnlySc.rf.all, rfl⟩
