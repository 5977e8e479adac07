def wtF (st x : Nat) : Nat → Nat
  | 0 => 1
  | i + 1 => wtF st x i * (if st.testBit i = true then x else 10 - x)
theorem wtF_le {st x : Nat} (hx : x ≤ 10) : ∀ i, wtF st x i ≤ 10 ^ i
  | 0 => Nat.le_refl _
  | i + 1 => by
    rw [wtF, Nat.pow_succ]
    refine Nat.mul_le_mul (wtF_le hx i) ?_
    split <;> omega
theorem lp_weight {g : GT} {M : MM} {L : LL} {st n x : Nat} (hs : st < 64) (hn : n ≤ 6) (hx : x ≤ 10) : ∀ (k i : Nat), i + k = n → JW g mX5_weightOf 0 (Rt (some (.int (nI (wtF st x n)))) M L) M L 5 [some (.int (nI st)), some (.int (nI n)), some (.int (nI x)), some (.int (nI (wtF st x i))), some (.int (nI i))] [] := by
  intro k
  induction k with
  | zero =>
    intro i hi
    refine ro_iload dX5_weightOf_5 rfl ?_
    refine ro_iload_n dX5_weightOf_7 rfl rfl ?_
    refine ro_icmp_ge 38 dX5_weightOf_8 (by decide) (fun b8 => ?_) (fun b8 => ?_)
    · refine ro_iload_n dX5_weightOf_38 rfl rfl ?_
      refine ro_iret rfl dX5_weightOf_39 ?_
      exact ⟨by rw [show i = n by omega], rfl, rfl⟩
    · exact absurd (nI_le (by omega) (by omega)) b8
  | succ k ih =>
    intro i hi
    have e : wtF st x (i + 1) = wtF st x i * (if st.testBit i = true then x else 10 - x) := rfl
    refine ro_iload dX5_weightOf_5 rfl ?_
    refine ro_iload_n dX5_weightOf_7 rfl rfl ?_
    refine ro_icmp_ge 38 dX5_weightOf_8 (by decide) (fun b8 => ?_) (fun b8 => ?_)
    · exact absurd b8 (nI_ge (by omega) (by omega))
    · refine ro_iload_n dX5_weightOf_11 rfl rfl ?_
      refine ro_iload_n dX5_weightOf_12 rfl rfl ?_
      refine ro_iload dX5_weightOf_13 rfl ?_
      refine ro_ishr dX5_weightOf_15 ?_
      refine ro_iconst (v := 1) dX5_weightOf_16 (by decide) ?_
      refine ro_iand dX5_weightOf_17 ?_
      rw [bt_at (by omega) (by omega)]
      refine ro_iconst (v := 1) dX5_weightOf_18 (by decide) ?_
      refine ro_icmp_ne 26 dX5_weightOf_19 (by decide) (fun b19 => ?_) (fun b19 => ?_)
      · rw [bI_eq1] at b19
        rw [if_neg b19] at e
        refine ro_bipush (v := 10) dX5_weightOf_26 (by decide) ?_
        refine ro_iload_n dX5_weightOf_28 rfl rfl ?_
        refine ro_isub dX5_weightOf_29 ?_
        refine ro_imul dX5_weightOf_30 ?_
        first
          | rw [pk_mul, ← e]
          | rw [show (10 : Int32) - nI x = nI (10 - x) from pk_sub (a := 10) hx, pk_mul, ← e]
        refine ro_istore_n3 dX5_weightOf_31 (Nat.le_of_ble_eq_true rfl) rfl ?_
        refine ro_iincP4 dX5_weightOf_32 (Nat.le_of_ble_eq_true rfl) rfl ?_
        refine ro_goto 5 dX5_weightOf_35 (by decide) ?_
        rw [nI_1]; exact ih (i + 1) (by omega)
      · rw [bI_eq1] at b19
        rw [if_pos b19] at e
        refine ro_iload_n dX5_weightOf_22 rfl rfl ?_
        refine ro_goto 30 dX5_weightOf_23 (by decide) ?_
        refine ro_imul dX5_weightOf_30 ?_
        first
          | rw [pk_mul, ← e]
          | rw [show (10 : Int32) - nI x = nI (10 - x) from pk_sub (a := 10) hx, pk_mul, ← e]
        refine ro_istore_n3 dX5_weightOf_31 (Nat.le_of_ble_eq_true rfl) rfl ?_
        refine ro_iincP4 dX5_weightOf_32 (Nat.le_of_ble_eq_true rfl) rfl ?_
        refine ro_goto 5 dX5_weightOf_35 (by decide) ?_
        rw [nI_1]; exact ih (i + 1) (by omega)
theorem ct_weight {g : GT} {M : MM} {L : LL} {st n x : Nat} (hs : st < 64) (hn : n ≤ 6) (hx : x ≤ 10) : CT g mX5_weightOf 0 [.int (nI st), .int (nI n), .int (nI x)] M L (some (.int (nI (wtF st x n)))) M L := by
  refine ct_of ok_X5_weightOf (lv := [some (.int (nI st)), some (.int (nI n)), some (.int (nI x)), none, none]) rfl (Nat.le_of_ble_eq_true rfl) ?_
  refine ro_iconst (v := 1) dX5_weightOf_0 (by decide) ?_
  refine ro_istore_n3 dX5_weightOf_1 (Nat.le_of_ble_eq_true rfl) rfl ?_
  refine ro_iconst (v := 0) dX5_weightOf_2 (by decide) ?_
  refine ro_istore4 dX5_weightOf_3 (Nat.le_of_ble_eq_true rfl) rfl ?_
  exact lp_weight hs hn hx n 0 (by omega)
theorem lp_ten {g : GT} {M : MM} {L : LL} {n : Nat} (hn : n ≤ 6) : ∀ (k i : Nat), i + k = n → JW g mX5_tenToThe 0 (Rt (some (.int (nI (10 ^ n)))) M L) M L 4 [some (.int (nI n)), some (.int (nI (10 ^ i))), some (.int (nI i))] [] := by
  intro k
  induction k with
  | zero =>
    intro i hi
    refine ro_iload_n dX5_tenToThe_4 rfl rfl ?_
    refine ro_iload_n dX5_tenToThe_5 rfl rfl ?_
    refine ro_icmp_ge 20 dX5_tenToThe_6 (by decide) (fun b6 => ?_) (fun b6 => ?_)
    · refine ro_iload_n dX5_tenToThe_20 rfl rfl ?_
      refine ro_iret rfl dX5_tenToThe_21 ?_
      exact ⟨by rw [show i = n by omega], rfl, rfl⟩
    · exact absurd (nI_le (by omega) (by omega)) b6
  | succ k ih =>
    intro i hi
    refine ro_iload_n dX5_tenToThe_4 rfl rfl ?_
    refine ro_iload_n dX5_tenToThe_5 rfl rfl ?_
    refine ro_icmp_ge 20 dX5_tenToThe_6 (by decide) (fun b6 => ?_) (fun b6 => ?_)
    · exact absurd b6 (nI_ge (by omega) (by omega))
    · refine ro_iload_n dX5_tenToThe_9 rfl rfl ?_
      refine ro_bipush (v := 10) dX5_tenToThe_10 (by decide) ?_
      refine ro_imul dX5_tenToThe_12 ?_
      rw [show nI (10 ^ i) * 10 = nI (10 ^ (i + 1)) from by rw [show (10 : Int32) = nI 10 from rfl, pk_mul, Nat.pow_succ]]
      refine ro_istore_n1 dX5_tenToThe_13 (Nat.le_of_ble_eq_true rfl) rfl ?_
      refine ro_iincP2 dX5_tenToThe_14 (Nat.le_of_ble_eq_true rfl) rfl ?_
      refine ro_goto 4 dX5_tenToThe_17 (by decide) ?_
      rw [nI_1]; exact ih (i + 1) (by omega)
theorem ct_ten {g : GT} {M : MM} {L : LL} {n : Nat} (hn : n ≤ 6) : CT g mX5_tenToThe 0 [.int (nI n)] M L (some (.int (nI (10 ^ n)))) M L := by
  refine ct_of ok_X5_tenToThe (lv := [some (.int (nI n)), none, none]) rfl (Nat.le_of_ble_eq_true rfl) ?_
  refine ro_iconst (v := 1) dX5_tenToThe_0 (by decide) ?_
  refine ro_istore_n1 dX5_tenToThe_1 (Nat.le_of_ble_eq_true rfl) rfl ?_
  refine ro_iconst (v := 0) dX5_tenToThe_2 (by decide) ?_
  refine ro_istore_n2 dX5_tenToThe_3 (Nat.le_of_ble_eq_true rfl) rfl ?_
  exact lp_ten hn n 0 (by omega)
/-- hours of which some (bits) turn dry -/
def dsR (l : LN) (st i : Nat) (c : SC) : Nat := if st.testBit i = true then 0 else ln_rainAt l (sc_hr c)
def dsC (l : LN) (st : Nat) (c : SC) : Nat → SC
  | 0 => c
  | i + 1 => hourC l (dsR l st i (dsC l st c i)) (dsC l st c i)
theorem dsC_ok {l : LN} {st n b : Nat} {c : SC} (ok : LnOK l) (oc : ScOK n b c) : ∀ i, ScOK n (b + i) (dsC l st c i)
  | 0 => oc
  | i + 1 => hourC_ok ok (dsC_ok ok oc i)
theorem dsR_le {l : LN} {st i : Nat} {c : SC} (ok : LnOK l) : dsR l st i c ≤ 9 := by
  unfold dsR
  split
  · omega
  · exact rainAt_le ok _
theorem lp_behind {g : GT} {L : LL} {ln : LN} {b st n k t : Nat} {c : SC} {M0 : MM} (ok : LnOK ln) (oc : ScOK (ln_n ln) b c) (hs : st < 64) (hn : n ≤ 6) (hk : k < ln_n ln) (ht : t < 6) (hb : b < 2 ^ 29) : ∀ (f i : Nat), i + f = n → ∀ (M : MM) (x6 : Option Value), LaneR M 16 ln → SceneR M 34 (dsC ln st c i) → OnlyB 34 37 M0 M → JW g mX5_knowsBehind 4 (fun v M' L' => v = some (.int (bI ((sc_kn (dsC ln st c n) k).testBit t))) ∧ OnlyB 34 37 M0 M' ∧ L' = L) M L 14 [some (.ref (dq_A g 0)), some (.int (nI st)), some (.int (nI n)), some (.int (nI k)), some (.int (nI t)), some (.int (nI i)), x6] [] := by
  have a1 := ok.1
  intro f
  induction f with
  | zero =>
    intro i hi M x6 hL hS ho
    have e : i = n := by omega
    subst e
    have oci := dsC_ok (st := st) ok oc i
    refine ro_iload dX5_knowsBehind_14 rfl ?_
    refine ro_iload_n dX5_knowsBehind_16 rfl rfl ?_
    refine ro_icmp_ge 74 dX5_knowsBehind_17 (by decide) (fun b17 => ?_) (fun b17 => ?_)
    · refine ro_aload_n dX5_knowsBehind_74 rfl rfl ?_
      refine gf_X5_trial  in_X5_knowsBehind_X5 lk_X5_knowsBehind_56 dX5_knowsBehind_75 ?_
      refine ro_iload_n dX5_knowsBehind_78 rfl rfl ?_
      refine ro_iload dX5_knowsBehind_79 rfl ?_
      refine ro_callV2 ok_X4_knowsThing (ct_knowsThing sc_34 hS oci.2.2.1 (by omega) ht) (ce_X4 sc_34) rfl rfl gX5_knowsBehind_X4_knowsThing (Nat.le_of_ble_eq_true rfl) (Nat.le_of_ble_eq_true rfl) dX5_knowsBehind_81 ?_
      refine ro_zret rfl (bI_nar _) dX5_knowsBehind_84 ?_
      exact ⟨rfl, ho, rfl⟩
    · exact absurd (nI_le (by omega) (by omega)) b17
  | succ f ih =>
    intro i hi M x6 hL hS ho
    have oci := dsC_ok (st := st) ok oc i
    have hhr := oci.2.2.2.2.2
    refine ro_iload dX5_knowsBehind_14 rfl ?_
    refine ro_iload_n dX5_knowsBehind_16 rfl rfl ?_
    refine ro_icmp_ge 74 dX5_knowsBehind_17 (by decide) (fun b17 => ?_) (fun b17 => ?_)
    · exact absurd b17 (nI_ge (by omega) (by omega))
    · refine ro_iload_n dX5_knowsBehind_20 rfl rfl ?_
      refine ro_iload dX5_knowsBehind_21 rfl ?_
      refine ro_ishr dX5_knowsBehind_23 ?_
      refine ro_iconst (v := 1) dX5_knowsBehind_24 (by decide) ?_
      refine ro_iand dX5_knowsBehind_25 ?_
      rw [bt_at (by omega) (by omega)]
      refine ro_iconst (v := 1) dX5_knowsBehind_26 (by decide) ?_
      refine ro_icmp_ne 34 dX5_knowsBehind_27 (by decide) (fun b27 => ?_) (fun b27 => ?_)
      · rw [bI_eq1] at b27
        have hr : dsR ln st i (dsC ln st c i) = ln_rainAt ln (sc_hr (dsC ln st c i)) := if_neg b27
        refine ro_iconst (v := 0) dX5_knowsBehind_34 (by decide) ?_
        refine ro_istore6 dX5_knowsBehind_35 (Nat.le_of_ble_eq_true rfl) rfl ?_
        refine ro_aload_n dX5_knowsBehind_37 rfl rfl ?_
        refine gf_X5_trial  in_X5_knowsBehind_X5 lk_X5_knowsBehind_56 dX5_knowsBehind_38 ?_
        refine ro_iload dX5_knowsBehind_41 rfl ?_
        refine ro_if_eq 50 dX5_knowsBehind_43 (by decide) (fun b43 => ?_) (fun b43 => ?_)
        · refine ro_aload_n dX5_knowsBehind_50 rfl rfl ?_
          refine gf_X5_told  in_X5_knowsBehind_X5 lk_X5_knowsBehind_38 dX5_knowsBehind_51 ?_
          refine ro_aload_n dX5_knowsBehind_54 rfl rfl ?_
          refine gf_X5_trial  in_X5_knowsBehind_X5 lk_X5_knowsBehind_56 dX5_knowsBehind_55 ?_
          refine gf_X4_hour sc_34 in_X5_knowsBehind_X4 lk_X5_knowsBehind_265 dX5_knowsBehind_58 ?_
          rw [hS.2.2.2.2]
          refine ro_callV1 ok_X2_rainAt (ct_rainAt (h := sc_hr (dsC ln st c i)) ln_16 hL ok (by omega)) (ce_X2 ln_16) rfl rfl gX5_knowsBehind_X2_rainAt (Nat.le_of_ble_eq_true rfl) (Nat.le_of_ble_eq_true rfl) dX5_knowsBehind_61 ?_
          first
            | refine ro_top (show (0 : Int32) = nI (dsR ln st i (dsC ln st c i)) from by rw [hr]; rfl) ?_
            | refine ro_top (show nI (ln_rainAt ln (sc_hr (dsC ln st c i))) = nI (dsR ln st i (dsC ln st c i)) from by rw [hr]) ?_
          refine ro_callV1Q ok_X4_passHourBy (ct_passHourBy sc_34 hL ok hS oci (by omega) (dsR_le ok)) (ce_X4 sc_34) rfl rfl gX5_knowsBehind_X4_passHourBy (Nat.le_of_ble_eq_true rfl) (Nat.le_of_ble_eq_true rfl) dX5_knowsBehind_64 (fun v64 M64 L64 q64 => ?_)
          obtain ⟨rfl, hS64, ho64, rfl⟩ := q64
          refine ro_pop dX5_knowsBehind_67 rfl ?_
          refine ro_iincP5 dX5_knowsBehind_68 (Nat.le_of_ble_eq_true rfl) rfl ?_
          refine ro_goto 14 dX5_knowsBehind_71 (by decide) ?_
          rw [nI_1]
          exact ih (i + 1) (by omega) M64 _ (hL.kS sc_34 ho64) hS64 (ho.tr ho64)
        · exact absurd b43 (by decide)
      · rw [bI_eq1] at b27
        have hr : dsR ln st i (dsC ln st c i) = 0 := if_pos b27
        refine ro_iconst (v := 1) dX5_knowsBehind_30 (by decide) ?_
        refine ro_goto 35 dX5_knowsBehind_31 (by decide) ?_
        refine ro_istore6 dX5_knowsBehind_35 (Nat.le_of_ble_eq_true rfl) rfl ?_
        refine ro_aload_n dX5_knowsBehind_37 rfl rfl ?_
        refine gf_X5_trial  in_X5_knowsBehind_X5 lk_X5_knowsBehind_56 dX5_knowsBehind_38 ?_
        refine ro_iload dX5_knowsBehind_41 rfl ?_
        refine ro_if_eq 50 dX5_knowsBehind_43 (by decide) (fun b43 => ?_) (fun b43 => ?_)
        · exact absurd b43 (by decide)
        · refine ro_iconst (v := 0) dX5_knowsBehind_46 (by decide) ?_
          refine ro_goto 64 dX5_knowsBehind_47 (by decide) ?_
          first
            | refine ro_top (show (0 : Int32) = nI (dsR ln st i (dsC ln st c i)) from by rw [hr]; rfl) ?_
            | refine ro_top (show nI (ln_rainAt ln (sc_hr (dsC ln st c i))) = nI (dsR ln st i (dsC ln st c i)) from by rw [hr]) ?_
          refine ro_callV1Q ok_X4_passHourBy (ct_passHourBy sc_34 hL ok hS oci (by omega) (dsR_le ok)) (ce_X4 sc_34) rfl rfl gX5_knowsBehind_X4_passHourBy (Nat.le_of_ble_eq_true rfl) (Nat.le_of_ble_eq_true rfl) dX5_knowsBehind_64 (fun v64 M64 L64 q64 => ?_)
          obtain ⟨rfl, hS64, ho64, rfl⟩ := q64
          refine ro_pop dX5_knowsBehind_67 rfl ?_
          refine ro_iincP5 dX5_knowsBehind_68 (Nat.le_of_ble_eq_true rfl) rfl ?_
          refine ro_goto 14 dX5_knowsBehind_71 (by decide) ?_
          rw [nI_1]
          exact ih (i + 1) (by omega) M64 _ (hL.kS sc_34 ho64) hS64 (ho.tr ho64)
theorem ct_behind {g : GT} {M : MM} {L : LL} {ln : LN} {b st n k t : Nat} {c : SC} (hL : LaneR M 16 ln) (ok : LnOK ln) (hS : SceneR M 30 c) (oc : ScOK (ln_n ln) b c) (hs : st < 64) (hn : n ≤ 6) (hk : k < ln_n ln) (ht : t < 6) (hb : b < 2 ^ 29) : CTQ g mX5_knowsBehind 4 [.ref (dq_A g 0), .int (nI st), .int (nI n), .int (nI k), .int (nI t)] M L (fun v M' L' => v = some (.int (bI ((sc_kn (dsC ln st c n) k).testBit t))) ∧ OnlyB 34 37 M M' ∧ L' = L) := by
  refine ct_of ok_X5_knowsBehind (lv := [some (.ref (dq_A g 0)), some (.int (nI st)), some (.int (nI n)), some (.int (nI k)), some (.int (nI t)), none, none]) rfl (Nat.le_of_ble_eq_true rfl) ?_
  refine ro_aload_n dX5_knowsBehind_0 rfl rfl ?_
  refine gf_X5_trial  in_X5_knowsBehind_X5 lk_X5_knowsBehind_56 dX5_knowsBehind_1 ?_
  refine ro_aload_n dX5_knowsBehind_4 rfl rfl ?_
  refine gf_X5_now  in_X5_knowsBehind_X5 lk_X5_knowsBehind_52 dX5_knowsBehind_5 ?_
  refine ro_callV1Q ok_X4_take (ct_scTake sc_34 sc_30 (by omega) hS) (ce_X4 sc_34) rfl rfl gX5_knowsBehind_X4_take (Nat.le_of_ble_eq_true rfl) (Nat.le_of_ble_eq_true rfl) dX5_knowsBehind_8 (fun v8 M8 L8 q8 => ?_)
  obtain ⟨rfl, hS8, ho8, rfl⟩ := q8
  have hL8 := hL.kS sc_34 ho8
  refine ro_iconst (v := 0) dX5_knowsBehind_11 (by decide) ?_
  refine ro_istore5 dX5_knowsBehind_12 (Nat.le_of_ble_eq_true rfl) rfl ?_
  exact lp_behind ok oc hs hn hk ht hb n 0 (by omega) M8 none hL8 hS8 ho8
def drA (l : LN) (c : SC) (n x k t : Nat) : Nat → Nat := smB (fun st => if (sc_kn (dsC l st c n) k).testBit t = true then wtF st x n else 0)
theorem drA_le {l : LN} {c : SC} {n x k t : Nat} (hx : x ≤ 10) (hn : n ≤ 6) : ∀ s, drA l c n x k t s ≤ 1000000 * s
  | 0 => Nat.le_refl _
  | s + 1 => by
    have h1 := drA_le (l := l) (c := c) (k := k) (t := t) hx hn s
    have h2 := wtF_le (st := s) hx n
    have h3 : 10 ^ n ≤ 10 ^ 6 := Nat.pow_le_pow_right (by decide) hn
    have h4 : (if (sc_kn (dsC l s c n) k).testBit t = true then wtF s x n else 0) ≤ 1000000 := by split <;> omega
    show drA l c n x k t s + (if (sc_kn (dsC l s c n) k).testBit t = true then wtF s x n else 0) ≤ 1000000 * (s + 1)
    omega
def sp_dries (S : ST) (x y m q u : Int32) : Int32 × ST := (if hB (ln_n (st_l S)) x = true ∧ hB 6 y = true then (if m < 1 ∨ 6 < m ∨ q < 0 ∨ 10 < q then -2 else frI (drA (st_l S) (st_c S) (kx m) (kx q) (kx x) (kx y) (2 ^ kx m)) (10 ^ kx m) u) else -1, S)
theorem lp_dries {g : GT} {L : LL} {ln : LN} {b n x k t : Nat} {u : Int32} {c : SC} {M0 : MM} (ok : LnOK ln) (oc : ScOK (ln_n ln) b c) (hn : n ≤ 6) (hx : x ≤ 10) (hk : k < ln_n ln) (ht : t < 6) (hb : b < 2 ^ 29) : ∀ (f i : Nat), i + f = 2 ^ n → ∀ (M : MM) (x8 : Option Value), LaneR M 16 ln → SceneR M 30 c → OnlyB 34 37 M0 M → JW g mX5_dries 5 (fun v M' L' => v = some (.int (frI (drA ln c n x k t (2 ^ n)) (10 ^ n) u)) ∧ OnlyB 34 37 M0 M' ∧ L' = L) M L 52 [some (.ref (dq_A g 0)), some (.int (nI k)), some (.int (nI t)), some (.int (nI n)), some (.int (nI x)), some (.int u), some (.int (nI (drA ln c n x k t i))), some (.int (nI i)), x8] [] := by
  have h64 : 2 ^ n ≤ 64 := Nat.le_trans (Nat.pow_le_pow_right (by decide) hn) (by decide)
  have h106 : 10 ^ n ≤ 1000000 := Nat.le_trans (Nat.pow_le_pow_right (by decide) hn) (by decide)
  have hp10 : 0 < 10 ^ n := Nat.pow_pos (by decide)
  intro f
  induction f with
  | zero =>
    intro i hi M x8 hL hS ho
    have e : i = 2 ^ n := by omega
    have hda := drA_le (l := ln) (c := c) (n := n) (x := x) (k := k) (t := t) hx hn i
    refine ro_iload dX5_dries_52 rfl ?_
    refine ro_iconst (v := 1) dX5_dries_54 (by decide) ?_
    refine ro_iload_n dX5_dries_55 rfl rfl ?_
    refine ro_ishl dX5_dries_56 ?_
    rw [sh_1 n (by omega)]
    refine ro_icmp_ge 100 dX5_dries_57 (by decide) (fun b57 => ?_) (fun b57 => ?_)
    · refine ro_iload dX5_dries_100 rfl ?_
      refine ro_iload_n dX5_dries_102 rfl rfl ?_
      refine ro_callS1 ok_X5_tenToThe (ct_ten hn) gX5_dries_X5_tenToThe (Nat.le_of_ble_eq_true rfl) (Nat.le_of_ble_eq_true rfl) dX5_dries_103 ?_
      refine ro_iload dX5_dries_106 rfl ?_
      refine ro_callS3 ok_X5_fraction (ct_fraction (by omega) (by omega) hp10) gX5_dries_X5_fraction (Nat.le_of_ble_eq_true rfl) (Nat.le_of_ble_eq_true rfl) dX5_dries_108 ?_
      refine ro_iret rfl dX5_dries_111 ?_
      exact ⟨by rw [e], ho, rfl⟩
    · exact absurd (nI_le (by omega) (by omega)) b57
  | succ f ih =>
    intro i hi M x8 hL hS ho
    have hw := wtF_le (st := i) hx n
    have hda := drA_le (l := ln) (c := c) (n := n) (x := x) (k := k) (t := t) hx hn i
    have e : drA ln c n x k t (i + 1) = drA ln c n x k t i + (if (sc_kn (dsC ln i c n) k).testBit t = true then wtF i x n else 0) := rfl
    refine ro_iload dX5_dries_52 rfl ?_
    refine ro_iconst (v := 1) dX5_dries_54 (by decide) ?_
    refine ro_iload_n dX5_dries_55 rfl rfl ?_
    refine ro_ishl dX5_dries_56 ?_
    rw [sh_1 n (by omega)]
    refine ro_icmp_ge 100 dX5_dries_57 (by decide) (fun b57 => ?_) (fun b57 => ?_)
    · exact absurd b57 (nI_ge (by omega) (by omega))
    · refine ro_iload dX5_dries_60 rfl ?_
      refine ro_iload_n dX5_dries_62 rfl rfl ?_
      refine ro_iload dX5_dries_63 rfl ?_
      refine ro_callS3 ok_X5_weightOf (ct_weight (by omega) hn hx) gX5_dries_X5_weightOf (Nat.le_of_ble_eq_true rfl) (Nat.le_of_ble_eq_true rfl) dX5_dries_65 ?_
      refine ro_istore8 dX5_dries_68 (Nat.le_of_ble_eq_true rfl) rfl ?_
      refine ro_iload dX5_dries_70 rfl ?_
      refine ro_if_le 94 dX5_dries_72 (by decide) (fun b72 => ?_) (fun b72 => ?_)
      · rw [nI_le0 (by omega)] at b72
        refine ro_iincP7 dX5_dries_94 (Nat.le_of_ble_eq_true rfl) rfl ?_
        refine ro_goto 52 dX5_dries_97 (by decide) ?_
        rw [nI_1]
        first
          | (have z := ih (i + 1) (by omega) M81 (some (.int (nI (wtF i x n)))) (hL.kS sc_34 ho81) (hS.keep (fun i a b => ho81 i (by omega))) (ho.tr ho81)
             rw [e, if_pos b84] at z
             exact z)
          | (have z := ih (i + 1) (by omega) M81 (some (.int (nI (wtF i x n)))) (hL.kS sc_34 ho81) (hS.keep (fun i a b => ho81 i (by omega))) (ho.tr ho81)
             have e2 : ¬ (sc_kn (dsC ln i c n) k).testBit t = true := by rw [b84]; decide
             rw [e, if_neg e2, Nat.add_zero] at z
             exact z)
          | (have z := ih (i + 1) (by omega) M (some (.int (nI (wtF i x n)))) hL hS ho
             have e2 : (if (sc_kn (dsC ln i c n) k).testBit t = true then wtF i x n else 0) = 0 := by split <;> omega
             rw [e, e2, Nat.add_zero] at z
             exact z)
      · rw [nI_le0 (by omega)] at b72
        refine ro_aload_n dX5_dries_75 rfl rfl ?_
        refine ro_iload dX5_dries_76 rfl ?_
        refine ro_iload_n dX5_dries_78 rfl rfl ?_
        refine ro_iload_n dX5_dries_79 rfl rfl ?_
        refine ro_iload_n dX5_dries_80 rfl rfl ?_
        refine ro_callV4Q ok_X5_knowsBehind (ct_behind hL ok hS oc (by omega) hn hk ht hb) ce_X5 rfl rfl gX5_dries_X5_knowsBehind (Nat.le_of_ble_eq_true rfl) (Nat.le_of_ble_eq_true rfl) dX5_dries_81 (fun v81 M81 L81 q81 => ?_)
        obtain ⟨rfl, ho81, rfl⟩ := q81
        refine ro_if_eq 94 dX5_dries_84 (by decide) (fun b84 => ?_) (fun b84 => ?_)
        · rw [bI_eq0] at b84
          refine ro_iincP7 dX5_dries_94 (Nat.le_of_ble_eq_true rfl) rfl ?_
          refine ro_goto 52 dX5_dries_97 (by decide) ?_
          rw [nI_1]
          first
            | (have z := ih (i + 1) (by omega) M81 (some (.int (nI (wtF i x n)))) (hL.kS sc_34 ho81) (hS.keep (fun i a b => ho81 i (by omega))) (ho.tr ho81)
               rw [e, if_pos b84] at z
               exact z)
            | (have z := ih (i + 1) (by omega) M81 (some (.int (nI (wtF i x n)))) (hL.kS sc_34 ho81) (hS.keep (fun i a b => ho81 i (by omega))) (ho.tr ho81)
               have e2 : ¬ (sc_kn (dsC ln i c n) k).testBit t = true := by rw [b84]; decide
               rw [e, if_neg e2, Nat.add_zero] at z
               exact z)
            | (have z := ih (i + 1) (by omega) M (some (.int (nI (wtF i x n)))) hL hS ho
               have e2 : (if (sc_kn (dsC ln i c n) k).testBit t = true then wtF i x n else 0) = 0 := by split <;> omega
               rw [e, e2, Nat.add_zero] at z
               exact z)
        · rw [bI_ne0] at b84
          refine ro_iload dX5_dries_87 rfl ?_
          refine ro_iload dX5_dries_89 rfl ?_
          refine ro_iadd dX5_dries_91 ?_
          rw [nI_add]
          refine ro_istore6 dX5_dries_92 (Nat.le_of_ble_eq_true rfl) rfl ?_
          refine ro_iincP7 dX5_dries_94 (Nat.le_of_ble_eq_true rfl) rfl ?_
          refine ro_goto 52 dX5_dries_97 (by decide) ?_
          rw [nI_1]
          first
            | (have z := ih (i + 1) (by omega) M81 (some (.int (nI (wtF i x n)))) (hL.kS sc_34 ho81) (hS.keep (fun i a b => ho81 i (by omega))) (ho.tr ho81)
               rw [e, if_pos b84] at z
               exact z)
            | (have z := ih (i + 1) (by omega) M81 (some (.int (nI (wtF i x n)))) (hL.kS sc_34 ho81) (hS.keep (fun i a b => ho81 i (by omega))) (ho.tr ho81)
               have e2 : ¬ (sc_kn (dsC ln i c n) k).testBit t = true := by rw [b84]; decide
               rw [e, if_neg e2, Nat.add_zero] at z
               exact z)
            | (have z := ih (i + 1) (by omega) M (some (.int (nI (wtF i x n)))) hL hS ho
               have e2 : (if (sc_kn (dsC ln i c n) k).testBit t = true then wtF i x n else 0) = 0 := by split <;> omega
               rw [e, e2, Nat.add_zero] at z
               exact z)
theorem ct_dries {g : GT} {M : MM} {L : LL} {S : ST} {b : Nat} {x y m q u : Int32} (h : RC M L S) (ok : StOK b S) : CTQ g mX5_dries 5 [.ref (dq_A g 0), .int x, .int y, .int m, .int q, .int u] M L (QC M L (sp_dries S x y m q u)) := by
  have hL := h.2.2.1
  have hS := h.2.2.2.1
  have hA := h.2.2.2.2.1
  have okl := ok.2.2.1
  have oc := ok.2.2.2.1
  have a1 := okl.1
  have hb := ok.2.2.2.2.2.2.2
  have h64 := ok.1
  refine ct_of ok_X5_dries (lv := [some (.ref (dq_A g 0)), some (.int x), some (.int y), some (.int m), some (.int q), some (.int u), none, none, none]) rfl (Nat.le_of_ble_eq_true rfl) ?_
  refine ro_aload_n dX5_dries_0 rfl rfl ?_
  refine gf_X5_told  in_X5_dries_X5 lk_X5_dries_38 dX5_dries_1 ?_
  refine ro_iload_n dX5_dries_4 rfl rfl ?_
  refine ro_callV1 ok_X2_hasHouse (ct_hasHouse ln_16 hL.1 x) (ce_X2 ln_16) rfl rfl gX5_dries_X2_hasHouse (Nat.le_of_ble_eq_true rfl) (Nat.le_of_ble_eq_true rfl) dX5_dries_5 ?_
  refine ro_if_eq 18 dX5_dries_8 (by decide) (fun b8 => ?_) (fun b8 => ?_)
  · rw [bI_eq0] at b8
    refine ro_iconst (v := -1) dX5_dries_18 (by decide) ?_
    refine ro_iret rfl dX5_dries_19 ?_
    rw [show sp_dries S x y m q u = (-1, S) from by unfold sp_dries; rw [if_neg (fun z => by first | (rw [b8] at z; exact absurd z.1 (by decide)) | (rw [b15] at z; exact absurd z.2 (by decide)))]]
    exact ⟨rfl, h, OnlySc.rf.all, rfl⟩
  · rw [bI_ne0] at b8
    refine ro_iload_n dX5_dries_11 rfl rfl ?_
    refine ro_callS1 ok_X5_isThing (ct_isThing y) gX5_dries_X5_isThing (Nat.le_of_ble_eq_true rfl) (Nat.le_of_ble_eq_true rfl) dX5_dries_12 ?_
    refine ro_if_ne 20 dX5_dries_15 (by decide) (fun b15 => ?_) (fun b15 => ?_)
    · rw [bI_ne0] at b15
      obtain ⟨k, hk, rfl⟩ := hB_some (by omega) b8
      obtain ⟨t, ht, rfl⟩ := hB_some (by omega) b15
      refine ro_iload_n dX5_dries_20 rfl rfl ?_
      refine ro_iconst (v := 1) dX5_dries_21 (by decide) ?_
      refine ro_icmp_lt 43 dX5_dries_22 (by decide) (fun b22 => ?_) (fun b22 => ?_)
      · refine ro_bipush (v := -2) dX5_dries_43 (by decide) ?_
        refine ro_iret rfl dX5_dries_45 ?_
        rw [show sp_dries S (nI k) (nI t) m q u = (-2, S) from by unfold sp_dries; rw [if_pos ⟨b8, b15⟩, if_pos (by first | exact Or.inl b22 | exact Or.inr (Or.inl b28) | exact Or.inr (Or.inr (Or.inl b33)) | exact Or.inr (Or.inr (Or.inr (Int32.not_le.mp b40))))]]
        exact ⟨rfl, h, OnlySc.rf.all, rfl⟩
      · refine ro_iload_n dX5_dries_25 rfl rfl ?_
        refine ro_bipush (v := 6) dX5_dries_26 (by decide) ?_
        refine ro_icmp_gt 43 dX5_dries_28 (by decide) (fun b28 => ?_) (fun b28 => ?_)
        · refine ro_bipush (v := -2) dX5_dries_43 (by decide) ?_
          refine ro_iret rfl dX5_dries_45 ?_
          rw [show sp_dries S (nI k) (nI t) m q u = (-2, S) from by unfold sp_dries; rw [if_pos ⟨b8, b15⟩, if_pos (by first | exact Or.inl b22 | exact Or.inr (Or.inl b28) | exact Or.inr (Or.inr (Or.inl b33)) | exact Or.inr (Or.inr (Or.inr (Int32.not_le.mp b40))))]]
          exact ⟨rfl, h, OnlySc.rf.all, rfl⟩
        · refine ro_iload dX5_dries_31 rfl ?_
          refine ro_if_lt 43 dX5_dries_33 (by decide) (fun b33 => ?_) (fun b33 => ?_)
          · refine ro_bipush (v := -2) dX5_dries_43 (by decide) ?_
            refine ro_iret rfl dX5_dries_45 ?_
            rw [show sp_dries S (nI k) (nI t) m q u = (-2, S) from by unfold sp_dries; rw [if_pos ⟨b8, b15⟩, if_pos (by first | exact Or.inl b22 | exact Or.inr (Or.inl b28) | exact Or.inr (Or.inr (Or.inl b33)) | exact Or.inr (Or.inr (Or.inr (Int32.not_le.mp b40))))]]
            exact ⟨rfl, h, OnlySc.rf.all, rfl⟩
          · refine ro_iload dX5_dries_36 rfl ?_
            refine ro_bipush (v := 10) dX5_dries_38 (by decide) ?_
            refine ro_icmp_le 46 dX5_dries_40 (by decide) (fun b40 => ?_) (fun b40 => ?_)
            · obtain ⟨n, hn, rfl⟩ := nI_of2 (x := m) (M := 6) (n := 6) rfl (fun z => b22 (Int32.lt_trans z (by decide))) (Int32.not_lt.mp b28)
              obtain ⟨r, hr, rfl⟩ := nI_of2 (x := q) (M := 10) (n := 10) rfl b33 b40
              refine ro_iconst (v := 0) dX5_dries_46 (by decide) ?_
              refine ro_istore6 dX5_dries_47 (Nat.le_of_ble_eq_true rfl) rfl ?_
              refine ro_iconst (v := 0) dX5_dries_49 (by decide) ?_
              refine ro_istore7 dX5_dries_50 (Nat.le_of_ble_eq_true rfl) rfl ?_
              refine JW.mono ?_ (lp_dries (x := r) (u := u) okl oc hn hr hk ht (by omega) (2 ^ n) 0 (by omega) M none hL hS OnlyB.rf)
              rintro v M' L' ⟨rfl, ho, rfl⟩
              refine ⟨?_, h.sc (OnlySc.tri ho) rfl, (OnlySc.tri ho).all, rfl⟩
              rw [show sp_dries S (nI k) (nI t) (nI n) (nI r) u = (frI (drA (st_l S) (st_c S) n r k t (2 ^ n)) (10 ^ n) u, S) from by unfold sp_dries; rw [if_pos ⟨b8, b15⟩, if_neg (fun z => z.elim b22 (fun z => z.elim b28 (fun z => z.elim b33 (fun z => Int32.not_lt.mpr b40 z)))), kx_nI (by omega), kx_nI (by omega), kx_nI (by omega), kx_nI (by omega)]]
            · refine ro_bipush (v := -2) dX5_dries_43 (by decide) ?_
              refine ro_iret rfl dX5_dries_45 ?_
              rw [show sp_dries S (nI k) (nI t) m q u = (-2, S) from by unfold sp_dries; rw [if_pos ⟨b8, b15⟩, if_pos (by first | exact Or.inl b22 | exact Or.inr (Or.inl b28) | exact Or.inr (Or.inr (Or.inl b33)) | exact Or.inr (Or.inr (Or.inr (Int32.not_le.mp b40))))]]
              exact ⟨rfl, h, OnlySc.rf.all, rfl⟩
    · rw [bI_eq0] at b15
      refine ro_iconst (v := -1) dX5_dries_18 (by decide) ?_
      refine ro_iret rfl dX5_dries_19 ?_
      rw [show sp_dries S x y m q u = (-1, S) from by unfold sp_dries; rw [if_neg (fun z => by first | (rw [b8] at z; exact absurd z.1 (by decide)) | (rw [b15] at z; exact absurd z.2 (by decide)))]]
      exact ⟨rfl, h, OnlySc.rf.all, rfl⟩
