/-! ===== THE REFERENCE ===== -/
def inB (v a b : Int64) : Bool := decide (¬ v < a ∧ ¬ b < v)
theorem i2l_T (x : Int32) : x.toInt64.toInt = x.toInt := by simp
theorem in_hB {x : Int32} {n : Nat} {c : Int64} (hc : c.toInt = (n : Int) - 1) (hn : n < 2 ^ 31) : inB x.toInt64 0 c = hB n x := by
  unfold inB hB
  apply decide_eq_decide.mpr
  rw [Int64.lt_iff_toInt_lt, Int64.lt_iff_toInt_lt, i2l_T, hc, Int32.lt_iff_toInt_lt, Int32.le_iff_toInt_le, nI_toInt hn]
  have h0 : (0 : Int64).toInt = 0 := rfl
  have h1 : (0 : Int32).toInt = 0 := rfl
  omega
theorem in_nn {n : Nat} (hn : n < 2 ^ 30) : (nI n - 1).toInt64.toInt = (n : Int) - 1 := by
  rw [i2l_T, nI_oI, show (1 : Int32) = oI 1 from rfl, oI_sub, oI_toInt (by omega) (by omega)]
theorem in_ab {x : Int32} {a b : Int64} : inB x.toInt64 a b = decide (a.toInt ≤ x.toInt ∧ x.toInt ≤ b.toInt) := by
  unfold inB
  apply decide_eq_decide.mpr
  rw [Int64.lt_iff_toInt_lt, Int64.lt_iff_toInt_lt, i2l_T]
  omega
theorem cr_in {g : GT} {M : MM} {L : LL} (v a b : Int64) : CT g mX6_in 0 [.long v, .long a, .long b] M L (some (.int (bI (inB v a b)))) M L := by
  refine ct_of ok_X6_in (lv := [some (.long v), none, some (.long a), none, some (.long b), none]) rfl (Nat.le_of_ble_eq_true rfl) ?_
  refine ro_lload_n dX6_in_0 rfl rfl ?_
  refine ro_lload_n dX6_in_1 rfl rfl ?_
  refine ro_lcmp dX6_in_2 ?_
  refine ro_if_lt 17 dX6_in_3 (by decide) (fun b3 => ?_) (fun b3 => ?_)
  · rw [lg_cmp_lt] at b3
    refine ro_iconst (v := 0) dX6_in_17 (by decide) ?_
    refine ro_zret rfl rfl dX6_in_18 ?_
    exact ⟨by simp [inB, bI, *], rfl, rfl⟩
  · rw [lg_cmp_lt] at b3
    refine ro_lload_n dX6_in_6 rfl rfl ?_
    refine ro_lload dX6_in_7 rfl ?_
    refine ro_lcmp dX6_in_9 ?_
    refine ro_if_gt 17 dX6_in_10 (by decide) (fun b10 => ?_) (fun b10 => ?_)
    · rw [lg_cmp_gt] at b10
      refine ro_iconst (v := 0) dX6_in_17 (by decide) ?_
      refine ro_zret rfl rfl dX6_in_18 ?_
      exact ⟨by simp [inB, bI, *], rfl, rfl⟩
    · rw [lg_cmp_gt] at b10
      refine ro_iconst (v := 1) dX6_in_13 (by decide) ?_
      refine ro_goto 18 dX6_in_14 (by decide) ?_
      refine ro_zret rfl rfl dX6_in_18 ?_
      exact ⟨by simp [inB, bI, *], rfl, rfl⟩
theorem cr_has {g : GT} {M : MM} {L : LL} {a k : Nat} (ha : a < 2 ^ 31) (hk : k < 31) : CT g mX6_has 0 [.int (nI a), .int (nI k)] M L (some (.int (bI (a.testBit k)))) M L := by
  refine ct_of ok_X6_has (lv := [some (.int (nI a)), some (.int (nI k))]) rfl (Nat.le_of_ble_eq_true rfl) ?_
  refine ro_iload_n dX6_has_0 rfl rfl ?_
  refine ro_iload_n dX6_has_1 rfl rfl ?_
  refine ro_ishr dX6_has_2 ?_
  refine ro_iconst (v := 1) dX6_has_3 (by decide) ?_
  refine ro_iand dX6_has_4 ?_
  rw [bt_at ha hk]
  refine ro_iconst (v := 1) dX6_has_5 (by decide) ?_
  refine ro_icmp_ne 13 dX6_has_6 (by decide) (fun b6 => ?_) (fun b6 => ?_)
  · rw [bI_eq1] at b6
    refine ro_iconst (v := 0) dX6_has_13 (by decide) ?_
    refine ro_zret rfl rfl dX6_has_14 ?_
    exact ⟨by simp [bI, b6], rfl, rfl⟩
  · rw [bI_eq1] at b6
    refine ro_iconst (v := 1) dX6_has_9 (by decide) ?_
    refine ro_goto 14 dX6_has_10 (by decide) ?_
    refine ro_zret rfl rfl dX6_has_14 ?_
    exact ⟨by simp [bI, b6], rfl, rfl⟩
theorem lr_ones {g : GT} {M : MM} {L : LL} {a : Nat} (ha : a < 2 ^ 31) : ∀ (f i : Nat), i + f = 8 → JW g mX6_ones 0 (Rt (some (.int (nI (pop a)))) M L) M L 4 [some (.int (nI a)), some (.int (nI (ctB a.testBit i))), some (.int (nI i))] [] := by
  intro f
  induction f with
  | zero =>
    intro i hi
    refine ro_iload_n dX6_ones_4 rfl rfl ?_
    refine ro_bipush (v := 8) dX6_ones_5 (by decide) ?_
    refine ro_icmp_ge 24 dX6_ones_7 (by decide) (fun b7 => ?_) (fun b7 => ?_)
    · refine ro_iload_n dX6_ones_24 rfl rfl ?_
      refine ro_iret rfl dX6_ones_25 ?_
      exact ⟨by rw [show i = 8 by omega]; rfl, rfl, rfl⟩
    · exact absurd (nI_le (a := 8) (by omega) (by omega)) b7
  | succ f ih =>
    intro i hi
    refine ro_iload_n dX6_ones_4 rfl rfl ?_
    refine ro_bipush (v := 8) dX6_ones_5 (by decide) ?_
    refine ro_icmp_ge 24 dX6_ones_7 (by decide) (fun b7 => ?_) (fun b7 => ?_)
    · exact absurd b7 (nI_ge (b := 8) (by omega) (by decide))
    · refine ro_iload_n dX6_ones_10 rfl rfl ?_
      refine ro_iload_n dX6_ones_11 rfl rfl ?_
      refine ro_iload_n dX6_ones_12 rfl rfl ?_
      refine ro_ishr dX6_ones_13 ?_
      refine ro_iconst (v := 1) dX6_ones_14 (by decide) ?_
      refine ro_iand dX6_ones_15 ?_
      rw [bt_at ha (by omega)]
      refine ro_iadd dX6_ones_16 ?_
      refine ro_istore_n1 dX6_ones_17 (Nat.le_of_ble_eq_true rfl) rfl ?_
      refine ro_iincP2 dX6_ones_18 (Nat.le_of_ble_eq_true rfl) rfl ?_
      refine ro_goto 4 dX6_ones_21 (by decide) ?_
      rw [nI_1, show nI (ctB a.testBit i) + bI (a.testBit i) = nI (ctB a.testBit (i + 1)) from by rw [ctB]; cases a.testBit i <;> first | exact nI_add _ 1 | exact nI_add _ 0]
      exact ih (i + 1) (by omega)
theorem cr_ones {g : GT} {M : MM} {L : LL} {a : Nat} (ha : a < 2 ^ 31) : CT g mX6_ones 0 [.int (nI a)] M L (some (.int (nI (pop a)))) M L := by
  refine ct_of ok_X6_ones (lv := [some (.int (nI a)), none, none]) rfl (Nat.le_of_ble_eq_true rfl) ?_
  refine ro_iconst (v := 0) dX6_ones_0 (by decide) ?_
  refine ro_istore_n1 dX6_ones_1 (Nat.le_of_ble_eq_true rfl) rfl ?_
  refine ro_iconst (v := 0) dX6_ones_2 (by decide) ?_
  refine ro_istore_n2 dX6_ones_3 (Nat.le_of_ble_eq_true rfl) rfl ?_
  exact lr_ones ha 8 0 rfl
def RLn (M : MM) (l : LN) : Prop := M 102 0 = nI (ln_n l) ∧ M 102 1 = nI (ln_s l) ∧ M 102 2 = nI (ln_r l) ∧ (∀ j, j < ln_n l → M 103 j = nI (ln_kind l j) ∧ M 104 j = nI (ln_wall l j)) ∧ (∀ j, j < ln_s l → M 105 (3 * j) = nI (ln_place l j) ∧ M 105 (3 * j + 1) = nI (ln_thing l j) ∧ M 105 (3 * j + 2) = nI (ln_loud l j)) ∧ ∀ j, j < ln_r l → M 106 j = nI (ln_rain l j)
/-- seventeen numbers from b on are a scene of n houses; g: what each hearer knows -/
def ScR (f : Nat → Int32) (b n : Nat) (c : SC) : Prop := (∀ j, j < 5 → f (b + j) = nI (sc_who c j)) ∧ (∃ g : Nat → Nat, (∀ k, k < 5 → f (b + 5 + k) = nI (g k) ∧ g k < 64) ∧ ∀ j, j < n → g (sc_who c j) = sc_kn c j) ∧ (∀ j, j < 5 → f (b + 10 + j) = oI (sc_vo c j)) ∧ f (b + 15) = nI (sc_hr c) ∧ f (b + 16) = nI (sc_dry c)
theorem ScR.cong {f f' : Nat → Int32} {b b' n : Nat} {c : SC} (h : ScR f b n c) (hk : ∀ k, k < 17 → f' (b' + k) = f (b + k)) : ScR f' b' n c := by
  obtain ⟨h1, ⟨g, h2, h3⟩, h4, h5, h6⟩ := h
  refine ⟨fun j hj => by rw [hk j (by omega)]; exact h1 j hj, ⟨g, fun k hkk => ⟨?_, (h2 k hkk).2⟩, h3⟩, fun j hj => ?_, by rw [hk 15 (by omega)]; exact h5, by rw [hk 16 (by omega)]; exact h6⟩
  · rw [Nat.add_assoc, hk (5 + k) (by omega), ← Nat.add_assoc]; exact (h2 k hkk).1
  · rw [Nat.add_assoc, hk (10 + j) (by omega), ← Nat.add_assoc]; exact h4 j hj
theorem RLn.keep {M M' : MM} {l : LN} (h : RLn M l) (h0 : ∀ k, k < 3 → M' 102 k = M 102 k) (hk : ∀ i, 103 ≤ i → i ≤ 106 → M' i = M i) : RLn M' l := by
  unfold RLn at h ⊢
  rw [h0 0 (by decide), h0 1 (by decide), h0 2 (by decide), hk 103 (by omega) (by omega), hk 104 (by omega) (by omega), hk 105 (by omega) (by omega), hk 106 (by omega) (by omega)]
  exact h
theorem cr_isHouse {g : GT} {M : MM} {L : LL} {ln : LN} (hL : RLn M ln) (ok : LnOK ln) (x : Int32) : CT g mX6_isHouse 1 [.ref (dq_A g 102), .int x] M L (some (.int (bI (hB (ln_n ln) x)))) M L := by
  have a1 := ok.1
  refine ct_of ok_X6_isHouse (lv := [some (.ref (dq_A g 102)), some (.int x)]) rfl (Nat.le_of_ble_eq_true rfl) ?_
  refine ro_iload_n dX6_isHouse_0 rfl rfl ?_
  refine ro_i2l dX6_isHouse_1 ?_
  refine ro_lconst (v := 0) dX6_isHouse_2 (by decide) ?_
  refine ro_aload_n dX6_isHouse_3 rfl rfl ?_
  refine gf_X6_houses  in_X6_isHouse_X6 lk_X6_isHouse_93 dX6_isHouse_4 ?_
  rw [hL.1]
  refine ro_iconst (v := 1) dX6_isHouse_7 (by decide) ?_
  refine ro_isub dX6_isHouse_8 ?_
  refine ro_i2l dX6_isHouse_9 ?_
  refine ro_callS3 ok_X6_in (cr_in _ _ _) gX6_isHouse_X6_in (Nat.le_of_ble_eq_true rfl) (Nat.le_of_ble_eq_true rfl) dX6_isHouse_10 ?_
  rw [in_hB (in_nn (by omega)) (by omega)]
  refine ro_zret rfl (bI_nar _) dX6_isHouse_13 ?_
  exact ⟨rfl, rfl, rfl⟩
theorem cr_isThing {g : GT} {M : MM} {L : LL} (x : Int32) : CT g mX6_isThing 1 [.int x] M L (some (.int (bI (hB 6 x)))) M L := by
  refine ct_of ok_X6_isThing (lv := [some (.int x)]) rfl (Nat.le_of_ble_eq_true rfl) ?_
  refine ro_iload_n dX6_isThing_0 rfl rfl ?_
  refine ro_i2l dX6_isThing_1 ?_
  refine ro_lconst (v := 0) dX6_isThing_2 (by decide) ?_
  refine ro_ldc2 dX6_isThing_3 lk_X6_isThing_105 ?_
  refine ro_callS3 ok_X6_in (cr_in _ _ _) gX6_isThing_X6_in (Nat.le_of_ble_eq_true rfl) (Nat.le_of_ble_eq_true rfl) dX6_isThing_6 ?_
  rw [in_hB (c := 5) (n := 6) rfl (by decide)]
  refine ro_zret rfl (bI_nar _) dX6_isThing_9 ?_
  exact ⟨rfl, rfl, rfl⟩
theorem cr_rainOn {g : GT} {M : MM} {L : LL} {lv : Nat} (hv : lv < 2) {ln : LN} {h : Nat} (hL : RLn M ln) (ok : LnOK ln) (hh : M 107 (17 * lv + 15) = nI h) (hb : h < 2 ^ 31) : CT g mX6_rainOn 0 [.ref (dq_A g 102), .int (nI lv)] M L (some (.int (nI (ln_rainAt ln h)))) M L := by
  have a3 := ok.2.2.1
  refine ct_of ok_X6_rainOn (lv := [some (.ref (dq_A g 102)), some (.int (nI lv))]) rfl (Nat.le_of_ble_eq_true rfl) ?_
  refine ro_aload_n dX6_rainOn_0 rfl rfl ?_
  refine gf_X6_rains  in_X6_rainOn_X6 lk_X6_rainOn_99 dX6_rainOn_1 ?_
  rw [hL.2.2.1]
  refine ro_if_ne 11 dX6_rainOn_4 (by decide) (fun b4 => ?_) (fun b4 => ?_)
  · replace b4 : ¬ ln_r ln = 0 := fun z => b4 (by rw [z]; rfl)
    refine ro_aload_n dX6_rainOn_11 rfl rfl ?_
    refine gf_X6_rain  in_X6_rainOn_X6 lk_X6_rainOn_19 dX6_rainOn_12 ?_
    refine ro_aload_n dX6_rainOn_15 rfl rfl ?_
    refine gf_X6_now  in_X6_rainOn_X6 lk_X6_rainOn_22 dX6_rainOn_16 ?_
    refine ro_bipush (v := 17) dX6_rainOn_19 (by decide) ?_
    refine ro_iload_n dX6_rainOn_21 rfl rfl ?_
    refine ro_imul dX6_rainOn_22 ?_
    refine ro_top (show _ = nI (17 * lv) from pk_mul 17 (lv)) ?_
    refine ro_bipush (v := 15) dX6_rainOn_23 (by decide) ?_
    refine ro_iadd dX6_rainOn_25 ?_
    refine ro_top (show _ = nI (17 * lv + 15) from nI_add (17 * lv) (15)) ?_
    refine ro_ai ar_107 rfl (by omega) dX6_rainOn_26 ?_
    rw [hh]
    refine ro_aload_n dX6_rainOn_27 rfl rfl ?_
    refine gf_X6_rains  in_X6_rainOn_X6 lk_X6_rainOn_99 dX6_rainOn_28 ?_
    rw [hL.2.2.1]
    refine ro_irem dX6_rainOn_31 (nI_ne0 (by omega) (by omega)) ?_
    refine ro_top (pk_rem hb (by omega) (by omega)) ?_
    refine ro_ai ar_106 rfl (by have := Nat.mod_lt h (show 0 < ln_r ln by omega); omega) dX6_rainOn_32 ?_
    first
      | rw [hL.2.2.2.2.2 (h % ln_r ln) (Nat.mod_lt _ (by omega))]
      | skip
    refine ro_iret rfl dX6_rainOn_33 ?_
    exact ⟨by first | (rw [ln_rainAt, if_pos b4]; rfl) | (rw [ln_rainAt, if_neg b4]), rfl, rfl⟩
  · replace b4 : ln_r ln = 0 := (nI_eq (b := 0) (by omega) (by decide)).mp b4
    refine ro_iconst (v := 0) dX6_rainOn_7 (by decide) ?_
    refine ro_goto 33 dX6_rainOn_8 (by decide) ?_
    first
      | rw [hL.2.2.2.2.2 (h % ln_r ln) (Nat.mod_lt _ (by omega))]
      | skip
    refine ro_iret rfl dX6_rainOn_33 ?_
    exact ⟨by first | (rw [ln_rainAt, if_pos b4]; rfl) | (rw [ln_rainAt, if_neg b4]), rfl, rfl⟩
theorem cr_sayingOn {g : GT} {M : MM} {L : LL} {lv : Nat} (hv : lv < 2) {ln : LN} {h : Nat} (hL : RLn M ln) (ok : LnOK ln) (hh : M 107 (17 * lv + 15) = nI h) (hb : h < 2 ^ 31) : CT g mX6_sayingOn 0 [.ref (dq_A g 102), .int (nI lv)] M L (some (.int (if ln_s ln = 0 then -9 else nI (h % ln_s ln)))) M L := by
  have a3 := ok.2.1
  refine ct_of ok_X6_sayingOn (lv := [some (.ref (dq_A g 102)), some (.int (nI lv))]) rfl (Nat.le_of_ble_eq_true rfl) ?_
  refine ro_aload_n dX6_sayingOn_0 rfl rfl ?_
  refine gf_X6_sayings  in_X6_sayingOn_X6 lk_X6_sayingOn_96 dX6_sayingOn_1 ?_
  rw [hL.2.1]
  refine ro_if_ne 12 dX6_sayingOn_4 (by decide) (fun b4 => ?_) (fun b4 => ?_)
  · replace b4 : ¬ ln_s ln = 0 := fun z => b4 (by rw [z]; rfl)
    refine ro_aload_n dX6_sayingOn_12 rfl rfl ?_
    refine gf_X6_now  in_X6_sayingOn_X6 lk_X6_sayingOn_22 dX6_sayingOn_13 ?_
    refine ro_bipush (v := 17) dX6_sayingOn_16 (by decide) ?_
    refine ro_iload_n dX6_sayingOn_18 rfl rfl ?_
    refine ro_imul dX6_sayingOn_19 ?_
    refine ro_top (show _ = nI (17 * lv) from pk_mul 17 (lv)) ?_
    refine ro_bipush (v := 15) dX6_sayingOn_20 (by decide) ?_
    refine ro_iadd dX6_sayingOn_22 ?_
    refine ro_top (show _ = nI (17 * lv + 15) from nI_add (17 * lv) (15)) ?_
    refine ro_ai ar_107 rfl (by omega) dX6_sayingOn_23 ?_
    rw [hh]
    refine ro_aload_n dX6_sayingOn_24 rfl rfl ?_
    refine gf_X6_sayings  in_X6_sayingOn_X6 lk_X6_sayingOn_96 dX6_sayingOn_25 ?_
    rw [hL.2.1]
    refine ro_irem dX6_sayingOn_28 (nI_ne0 (by omega) (by omega)) ?_
    refine ro_iret rfl dX6_sayingOn_29 ?_
    exact ⟨by first | (rw [if_pos b4]; done) | (rw [if_neg b4, pk_rem hb (by omega) (by omega)]), rfl, rfl⟩
  · replace b4 : ln_s ln = 0 := (nI_eq (b := 0) (by omega) (by decide)).mp b4
    refine ro_bipush (v := -9) dX6_sayingOn_7 (by decide) ?_
    refine ro_goto 29 dX6_sayingOn_9 (by decide) ?_
    refine ro_iret rfl dX6_sayingOn_29 ?_
    exact ⟨by first | (rw [if_pos b4]; done) | (rw [if_neg b4, pk_rem hb (by omega) (by omega)]), rfl, rfl⟩
theorem cr_earOf {g : GT} {M : MM} {L : LL} {k : Nat} (hk : k < 4) : CT g mX6_earOf 0 [.int (nI k)] M L (some (.int (oI (earZ k)))) M L := by
  refine ct_of ok_X6_earOf (lv := [some (.int (nI k))]) rfl (Nat.le_of_ble_eq_true rfl) ?_
  refine ro_iload_n dX6_earOf_0 rfl rfl ?_
  refine ro_iconst (v := 1) dX6_earOf_1 (by decide) ?_
  refine ro_icmp_ne 9 dX6_earOf_2 (by decide) (fun b2 => ?_) (fun b2 => ?_)
  · replace b2 : ¬ k = 1 := fun z => b2 (by rw [z]; rfl)
    refine ro_iload_n dX6_earOf_9 rfl rfl ?_
    refine ro_iconst (v := 2) dX6_earOf_10 (by decide) ?_
    refine ro_icmp_ne 19 dX6_earOf_11 (by decide) (fun b11 => ?_) (fun b11 => ?_)
    · replace b11 : ¬ k = 2 := fun z => b11 (by rw [z]; rfl)
      refine ro_iconst (v := 0) dX6_earOf_19 (by decide) ?_
      refine ro_iret rfl dX6_earOf_20 ?_
      exact ⟨by unfold earZ; first | (rw [if_pos b2]; rfl) | (rw [if_neg b2, if_pos b11]; rfl) | (rw [if_neg b2, if_neg b11]; rfl), rfl, rfl⟩
    · replace b11 : k = 2 := (nI_eq (b := 2) (by omega) (by decide)).mp b11
      refine ro_bipush (v := -2) dX6_earOf_14 (by decide) ?_
      refine ro_goto 20 dX6_earOf_16 (by decide) ?_
      refine ro_iret rfl dX6_earOf_20 ?_
      exact ⟨by unfold earZ; first | (rw [if_pos b2]; rfl) | (rw [if_neg b2, if_pos b11]; rfl) | (rw [if_neg b2, if_neg b11]; rfl), rfl, rfl⟩
  · replace b2 : k = 1 := (nI_eq (b := 1) (by omega) (by decide)).mp b2
    refine ro_iconst (v := 2) dX6_earOf_5 (by decide) ?_
    refine ro_goto 20 dX6_earOf_6 (by decide) ?_
    refine ro_iret rfl dX6_earOf_20 ?_
    exact ⟨by unfold earZ; first | (rw [if_pos b2]; rfl) | (rw [if_neg b2, if_pos b11]; rfl) | (rw [if_neg b2, if_neg b11]; rfl), rfl, rfl⟩
theorem cr_strayed {g : GT} {M : MM} {L : LL} {lv : Nat} (hv : lv < 2) {dy : Nat} (hd : M 107 (17 * lv + 16) = nI dy) (h9 : dy ≤ 9) : CT g mX6_isStrayed 0 [.ref (dq_A g 102), .int (nI lv)] M L (some (.int (bI (decide (3 ≤ dy))))) M L := by
  refine ct_of ok_X6_isStrayed (lv := [some (.ref (dq_A g 102)), some (.int (nI lv))]) rfl (Nat.le_of_ble_eq_true rfl) ?_
  refine ro_aload_n dX6_isStrayed_0 rfl rfl ?_
  refine gf_X6_now  in_X6_isStrayed_X6 lk_X6_isStrayed_22 dX6_isStrayed_1 ?_
  refine ro_bipush (v := 17) dX6_isStrayed_4 (by decide) ?_
  refine ro_iload_n dX6_isStrayed_6 rfl rfl ?_
  refine ro_imul dX6_isStrayed_7 ?_
  refine ro_top (show _ = nI (17 * lv) from pk_mul 17 (lv)) ?_
  refine ro_bipush (v := 16) dX6_isStrayed_8 (by decide) ?_
  refine ro_iadd dX6_isStrayed_10 ?_
  refine ro_top (show _ = nI (17 * lv + 16) from nI_add (17 * lv) (16)) ?_
  refine ro_ai ar_107 rfl (by omega) dX6_isStrayed_11 ?_
  rw [hd]
  refine ro_iconst (v := 3) dX6_isStrayed_12 (by decide) ?_
  refine ro_icmp_lt 20 dX6_isStrayed_13 (by decide) (fun b13 => ?_) (fun b13 => ?_)
  · rw [show (3 : Int32) = nI 3 from rfl, nI_ltI (by omega) (by omega)] at b13
    refine ro_iconst (v := 0) dX6_isStrayed_20 (by decide) ?_
    refine ro_zret rfl rfl dX6_isStrayed_21 ?_
    exact ⟨by first | (rw [decide_eq_false (by omega)]; rfl) | (rw [decide_eq_true (by omega)]; rfl), rfl, rfl⟩
  · rw [show (3 : Int32) = nI 3 from rfl, nI_ltI (by omega) (by omega)] at b13
    refine ro_iconst (v := 1) dX6_isStrayed_16 (by decide) ?_
    refine ro_goto 21 dX6_isStrayed_17 (by decide) ?_
    refine ro_zret rfl rfl dX6_isStrayed_21 ?_
    exact ⟨by first | (rw [decide_eq_false (by omega)]; rfl) | (rw [decide_eq_true (by omega)]; rfl), rfl, rfl⟩
theorem cr_knowsAt {g : GT} {M : MM} {L : LL} {lv : Nat} (hv : lv < 2) {h : Nat} {n : Nat} {c : SC} (hS : ScR (M 107) (17 * lv) n c) (hw : ∀ j, j < n → sc_who c j < n) (hn : n ≤ 5) (hh : h < n) : CT g mX6_knowsAt 0 [.ref (dq_A g 102), .int (nI lv), .int (nI h)] M L (some (.int (nI (sc_kn c h)))) M L := by
  have hwh := hw h hh
  obtain ⟨h1, ⟨gk, h2, h3⟩, h4, h5, h6⟩ := hS
  refine ct_of ok_X6_knowsAt (lv := [some (.ref (dq_A g 102)), some (.int (nI lv)), some (.int (nI h)), none]) rfl (Nat.le_of_ble_eq_true rfl) ?_
  refine ro_bipush (v := 17) dX6_knowsAt_0 (by decide) ?_
  refine ro_iload_n dX6_knowsAt_2 rfl rfl ?_
  refine ro_imul dX6_knowsAt_3 ?_
  refine ro_top (show _ = nI (17 * lv) from pk_mul 17 (lv)) ?_
  refine ro_istore_n3 dX6_knowsAt_4 (Nat.le_of_ble_eq_true rfl) rfl ?_
  refine ro_aload_n dX6_knowsAt_5 rfl rfl ?_
  refine gf_X6_now  in_X6_knowsAt_X6 lk_X6_knowsAt_22 dX6_knowsAt_6 ?_
  refine ro_iload_n dX6_knowsAt_9 rfl rfl ?_
  refine ro_iconst (v := 5) dX6_knowsAt_10 (by decide) ?_
  refine ro_iadd dX6_knowsAt_11 ?_
  refine ro_top (show _ = nI (17 * lv + 5) from nI_add (17 * lv) (5)) ?_
  refine ro_aload_n dX6_knowsAt_12 rfl rfl ?_
  refine gf_X6_now  in_X6_knowsAt_X6 lk_X6_knowsAt_22 dX6_knowsAt_13 ?_
  refine ro_iload_n dX6_knowsAt_16 rfl rfl ?_
  refine ro_iload_n dX6_knowsAt_17 rfl rfl ?_
  refine ro_iadd dX6_knowsAt_18 ?_
  refine ro_top (show _ = nI (17 * lv + h) from nI_add (17 * lv) (h)) ?_
  refine ro_ai ar_107 rfl (by omega) dX6_knowsAt_19 ?_
  rw [h1 h (by omega)]
  refine ro_iadd dX6_knowsAt_20 ?_
  refine ro_top (show _ = nI (17 * lv + 5 + sc_who c h) from nI_add (17 * lv + 5) (sc_who c h)) ?_
  refine ro_ai ar_107 rfl (by omega) dX6_knowsAt_21 ?_
  rw [(h2 (sc_who c h) (by omega)).1, h3 h hh]
  refine ro_iret rfl dX6_knowsAt_22 ?_
  exact ⟨rfl, rfl, rfl⟩
theorem lr_knownOn {g : GT} {M : MM} {L : LL} {lv : Nat} {ln : LN} {gk : Nat → Nat} (hv : lv < 2) (hL : RLn M ln) (ok : LnOK ln) (h2 : ∀ k, k < 5 → M 107 (17 * lv + 5 + k) = nI (gk k) ∧ gk k < 64) : ∀ (f i : Nat), i + f = ln_n ln → JW g mX6_knownOn 0 (Rt (some (.int (nI (orB (fun _ => true) gk (ln_n ln))))) M L) M L 4 [some (.ref (dq_A g 102)), some (.int (nI lv)), some (.int (nI (orB (fun _ => true) gk i))), some (.int (nI i))] [] := by
  have a1 := ok.1
  intro f
  induction f with
  | zero =>
    intro i hi
    refine ro_iload_n dX6_knownOn_4 rfl rfl ?_
    refine ro_aload_n dX6_knownOn_5 rfl rfl ?_
    refine gf_X6_houses  in_X6_knownOn_X6 lk_X6_knownOn_93 dX6_knownOn_6 ?_
    rw [hL.1]
    refine ro_icmp_ge 34 dX6_knownOn_9 (by decide) (fun b9 => ?_) (fun b9 => ?_)
    · refine ro_iload_n dX6_knownOn_34 rfl rfl ?_
      refine ro_iret rfl dX6_knownOn_35 ?_
      exact ⟨by rw [show i = ln_n ln by omega], rfl, rfl⟩
    · exact absurd (nI_le (by omega) (by omega)) b9
  | succ f ih =>
    intro i hi
    refine ro_iload_n dX6_knownOn_4 rfl rfl ?_
    refine ro_aload_n dX6_knownOn_5 rfl rfl ?_
    refine gf_X6_houses  in_X6_knownOn_X6 lk_X6_knownOn_93 dX6_knownOn_6 ?_
    rw [hL.1]
    refine ro_icmp_ge 34 dX6_knownOn_9 (by decide) (fun b9 => ?_) (fun b9 => ?_)
    · exact absurd b9 (nI_ge (by omega) (by omega))
    · refine ro_iload_n dX6_knownOn_12 rfl rfl ?_
      refine ro_aload_n dX6_knownOn_13 rfl rfl ?_
      refine gf_X6_now  in_X6_knownOn_X6 lk_X6_knownOn_22 dX6_knownOn_14 ?_
      refine ro_bipush (v := 17) dX6_knownOn_17 (by decide) ?_
      refine ro_iload_n dX6_knownOn_19 rfl rfl ?_
      refine ro_imul dX6_knownOn_20 ?_
      refine ro_top (show _ = nI (17 * lv) from pk_mul 17 (lv)) ?_
      refine ro_iconst (v := 5) dX6_knownOn_21 (by decide) ?_
      refine ro_iadd dX6_knownOn_22 ?_
      refine ro_top (show _ = nI (17 * lv + 5) from nI_add (17 * lv) (5)) ?_
      refine ro_iload_n dX6_knownOn_23 rfl rfl ?_
      refine ro_iadd dX6_knownOn_24 ?_
      refine ro_top (show _ = nI (17 * lv + 5 + i) from nI_add (17 * lv + 5) (i)) ?_
      refine ro_ai ar_107 rfl (by omega) dX6_knownOn_25 ?_
      rw [(h2 i (by omega)).1]
      refine ro_ior dX6_knownOn_26 ?_
      rw [fa_or]
      refine ro_istore_n2 dX6_knownOn_27 (Nat.le_of_ble_eq_true rfl) rfl ?_
      refine ro_iincP3 dX6_knownOn_28 (Nat.le_of_ble_eq_true rfl) rfl ?_
      refine ro_goto 4 dX6_knownOn_31 (by decide) ?_
      rw [nI_1]
      exact ih (i + 1) (by omega)
theorem cr_knownOn {g : GT} {M : MM} {L : LL} {lv : Nat} {ln : LN} {gk : Nat → Nat} (hv : lv < 2) (hL : RLn M ln) (ok : LnOK ln) (h2 : ∀ k, k < 5 → M 107 (17 * lv + 5 + k) = nI (gk k) ∧ gk k < 64) : CT g mX6_knownOn 0 [.ref (dq_A g 102), .int (nI lv)] M L (some (.int (nI (orB (fun _ => true) gk (ln_n ln))))) M L := by
  refine ct_of ok_X6_knownOn (lv := [some (.ref (dq_A g 102)), some (.int (nI lv)), none, none]) rfl (Nat.le_of_ble_eq_true rfl) ?_
  refine ro_iconst (v := 0) dX6_knownOn_0 (by decide) ?_
  refine ro_istore_n2 dX6_knownOn_1 (Nat.le_of_ble_eq_true rfl) rfl ?_
  refine ro_iconst (v := 0) dX6_knownOn_2 (by decide) ?_
  refine ro_istore_n3 dX6_knownOn_3 (Nat.le_of_ble_eq_true rfl) rfl ?_
  exact lr_knownOn hv hL ok h2 (ln_n ln) 0 (by omega)
theorem cr_hears {g : GT} {M : MM} {L : LL} {lv : Nat} {ln : LN} {b k r : Nat} {c : SC} (hv : lv < 2) (hL : RLn M ln) (ok : LnOK ln) (hS : ScR (M 107) (17 * lv) (ln_n ln) c) (oc : ScOK (ln_n ln) b c) (hk : k < ln_n ln) (hr : r ≤ 9) : CT g mX6_hears 1 [.ref (dq_A g 102), .int (nI lv), .int (nI k), .int (if ln_s ln = 0 then (-9 : Int32) else nI (sc_hr c % ln_s ln)), .int (nI r)] M L (some (.int (bI (hearB ln c r k)))) M L := by
  have a1 := ok.1
  have a2 := ok.2.1
  refine ct_of ok_X6_hears (lv := [some (.ref (dq_A g 102)), some (.int (nI lv)), some (.int (nI k)), some (.int (if ln_s ln = 0 then (-9 : Int32) else nI (sc_hr c % ln_s ln))), some (.int (nI r)), none, none, none, none]) rfl (Nat.le_of_ble_eq_true rfl) ?_
  refine ro_iload_n dX6_hears_0 rfl rfl ?_
  refine ro_bipush (v := -9) dX6_hears_1 (by decide) ?_
  refine ro_icmp_eq 14 dX6_hears_3 (by decide) (fun b3 => ?_) (fun b3 => ?_)
  · replace b3 : ln_s ln = 0 := by by_cases z : ln_s ln = 0; exact z; (rw [if_neg z] at b3; exact absurd b3 (nI_ne9 (by have := Nat.mod_lt (sc_hr c) (show 0 < ln_s ln by omega); omega)))
    refine ro_iconst (v := 0) dX6_hears_14 (by decide) ?_
    refine ro_zret rfl rfl dX6_hears_15 ?_
    exact ⟨by rw [show hearB ln c r k = false by simp [hearB, *]]; rfl, rfl, rfl⟩
  · replace b3 : ¬ ln_s ln = 0 := fun z => b3 (if_pos z)
    refine ro_aload_n dX6_hears_6 rfl rfl ?_
    refine ro_iload_n dX6_hears_7 rfl rfl ?_
    refine ro_callV1 ok_X6_isStrayed (cr_strayed hv hS.2.2.2.2 oc.2.2.2.2.1) ce_X6 rfl rfl gX6_hears_X6_isStrayed (Nat.le_of_ble_eq_true rfl) (Nat.le_of_ble_eq_true rfl) dX6_hears_8 ?_
    refine ro_if_eq 16 dX6_hears_11 (by decide) (fun b11 => ?_) (fun b11 => ?_)
    · rw [bI_eq0, decide_eq_false_iff_not] at b11
      rw [if_neg b3]
      have hsk : sayK ln c < ln_s ln := Nat.mod_lt _ (by omega)
      have hp := ok.2.2.2.2.1 _ hsk
      have hsy := hL.2.2.2.2.1 _ hsk
      have hwl := (ok.2.2.2.1 _ hp.1).1
      have hvo := oc.2.2.2.1 (ln_place ln (sayK ln c))
      have hwk := oc.1 k hk
      have hkd := (ok.2.2.2.1 _ hwk).2
      have hea := earZ_b (ln_kind ln (sc_who c k))
      have hbb : hearB ln c r k = hearP ln c r k := by simp [hearB, b11, b3]
      refine ro_bipush (v := 17) dX6_hears_16 (by decide) ?_
      refine ro_iload_n dX6_hears_18 rfl rfl ?_
      refine ro_imul dX6_hears_19 ?_
      refine ro_top (show _ = nI (17 * lv) from pk_mul 17 (lv)) ?_
      refine ro_istore5 dX6_hears_20 (Nat.le_of_ble_eq_true rfl) rfl ?_
      refine ro_aload_n dX6_hears_22 rfl rfl ?_
      refine gf_X6_saying  in_X6_hears_X6 lk_X6_hears_16 dX6_hears_23 ?_
      refine ro_iconst (v := 3) dX6_hears_26 (by decide) ?_
      refine ro_iload_n dX6_hears_27 rfl rfl ?_
      refine ro_imul dX6_hears_28 ?_
      refine ro_top (show _ = nI (3 * (sayK ln c)) from pk_mul 3 (sayK ln c)) ?_
      refine ro_ai ar_105 rfl (by omega) dX6_hears_29 ?_
      rw [hsy.1]
      refine ro_istore6 dX6_hears_30 (Nat.le_of_ble_eq_true rfl) rfl ?_
      refine ro_aload_n dX6_hears_32 rfl rfl ?_
      refine gf_X6_kind  in_X6_hears_X6 lk_X6_hears_7 dX6_hears_33 ?_
      refine ro_aload_n dX6_hears_36 rfl rfl ?_
      refine gf_X6_now  in_X6_hears_X6 lk_X6_hears_22 dX6_hears_37 ?_
      refine ro_iload dX6_hears_40 rfl ?_
      refine ro_iload_n dX6_hears_42 rfl rfl ?_
      refine ro_iadd dX6_hears_43 ?_
      refine ro_top (show _ = nI (17 * lv + k) from nI_add (17 * lv) (k)) ?_
      refine ro_ai ar_107 rfl (by omega) dX6_hears_44 ?_
      rw [hS.1 k (by omega)]
      refine ro_ai ar_103 rfl (by omega) dX6_hears_45 ?_
      rw [(hL.2.2.2.1 _ hwk).1]
      refine ro_istore7 dX6_hears_46 (Nat.le_of_ble_eq_true rfl) rfl ?_
      refine ro_iload dX6_hears_48 rfl ?_
      refine ro_iconst (v := 3) dX6_hears_50 (by decide) ?_
      refine ro_icmp_ne 62 dX6_hears_51 (by decide) (fun b51 => ?_) (fun b51 => ?_)
      · replace b51 : ¬ ln_kind ln (sc_who c k) = 3 := fun z => b51 (by rw [z]; rfl)
        refine ro_iload_n dX6_hears_62 rfl rfl ?_
        refine ro_iload dX6_hears_63 rfl ?_
        refine ro_icmp_le 75 dX6_hears_65 (by decide) (fun b65 => ?_) (fun b65 => ?_)
        · rw [nI_leI (by omega) (by omega)] at b65
          refine ro_iload dX6_hears_75 rfl ?_
          refine ro_iload_n dX6_hears_77 rfl rfl ?_
          refine ro_isub dX6_hears_78 ?_
          first
            | refine ro_top (show nI k - nI (ln_place ln (sayK ln c)) = nI (away k (ln_place ln (sayK ln c))) from by rw [pk_sub (by omega)]; unfold away; rw [if_pos (by omega)]) ?_
            | refine ro_top (show nI (ln_place ln (sayK ln c)) - nI k = nI (away k (ln_place ln (sayK ln c))) from by rw [pk_sub (by omega), show away k (ln_place ln (sayK ln c)) = (ln_place ln (sayK ln c)) - k by unfold away; split <;> omega]) ?_
          refine ro_istore8 dX6_hears_79 (Nat.le_of_ble_eq_true rfl) rfl ?_
          have haw := aw_lt (i := k) (p := (ln_place ln (sayK ln c))) (by omega) (by omega)
          refine ro_aload_n dX6_hears_81 rfl rfl ?_
          refine gf_X6_saying  in_X6_hears_X6 lk_X6_hears_16 dX6_hears_82 ?_
          refine ro_iconst (v := 3) dX6_hears_85 (by decide) ?_
          refine ro_iload_n dX6_hears_86 rfl rfl ?_
          refine ro_imul dX6_hears_87 ?_
          refine ro_top (show _ = nI (3 * (sayK ln c)) from pk_mul 3 (sayK ln c)) ?_
          refine ro_iconst (v := 2) dX6_hears_88 (by decide) ?_
          refine ro_iadd dX6_hears_89 ?_
          refine ro_top (show _ = nI (3 * (sayK ln c) + 2) from nI_add (3 * (sayK ln c)) (2)) ?_
          refine ro_ai ar_105 rfl (by omega) dX6_hears_90 ?_
          rw [hsy.2.2]
          refine ro_aload_n dX6_hears_91 rfl rfl ?_
          refine gf_X6_now  in_X6_hears_X6 lk_X6_hears_22 dX6_hears_92 ?_
          refine ro_iload dX6_hears_95 rfl ?_
          refine ro_bipush (v := 10) dX6_hears_97 (by decide) ?_
          refine ro_iadd dX6_hears_99 ?_
          refine ro_top (show _ = nI (17 * lv + 10) from nI_add (17 * lv) (10)) ?_
          refine ro_iload dX6_hears_100 rfl ?_
          refine ro_iadd dX6_hears_102 ?_
          refine ro_top (show _ = nI (17 * lv + 10 + (ln_place ln (sayK ln c))) from nI_add (17 * lv + 10) ((ln_place ln (sayK ln c)))) ?_
          refine ro_ai ar_107 rfl (by omega) dX6_hears_103 ?_
          rw [hS.2.2.1 (ln_place ln (sayK ln c)) (by omega)]
          refine ro_iadd dX6_hears_104 ?_
          refine ro_iload dX6_hears_105 rfl ?_
          refine ro_callS1 ok_X6_earOf (cr_earOf (by omega)) gX6_hears_X6_earOf (Nat.le_of_ble_eq_true rfl) (Nat.le_of_ble_eq_true rfl) dX6_hears_107 ?_
          refine ro_iadd dX6_hears_110 ?_
          refine ro_top (show _ = oI ((ln_loud ln (sayK ln c) : Int) + sc_vo c (ln_place ln (sayK ln c)) + earZ (ln_kind ln (sc_who c k))) from by rw [nI_oI, oI_add, oI_add]) ?_
          refine ro_aload_n dX6_hears_111 rfl rfl ?_
          refine gf_X6_wall  in_X6_hears_X6 lk_X6_hears_13 dX6_hears_112 ?_
          refine ro_iload dX6_hears_115 rfl ?_
          refine ro_ai ar_104 rfl (by omega) dX6_hears_117 ?_
          rw [(hL.2.2.2.1 _ hp.1).2]
          refine ro_iconst (v := 2) dX6_hears_118 (by decide) ?_
          refine ro_iload dX6_hears_119 rfl ?_
          refine ro_imul dX6_hears_121 ?_
          refine ro_iadd dX6_hears_122 ?_
          refine ro_iload dX6_hears_123 rfl ?_
          refine ro_iadd dX6_hears_125 ?_
          refine ro_top (show _ = oI ((ln_wall ln (ln_place ln (sayK ln c)) : Int) + 2 * (away k (ln_place ln (sayK ln c)) : Int) + (r : Int)) from by rw [show (2 : Int32) = oI 2 from rfl, nI_oI, nI_oI, nI_oI, oI_mul, oI_add, oI_add]) ?_
          refine ro_icmp_le 133 dX6_hears_126 (by decide) (fun b126 => ?_) (fun b126 => ?_)
          · rw [oI_le (by omega) (by omega) (by omega) (by omega)] at b126
            refine ro_iconst (v := 0) dX6_hears_133 (by decide) ?_
            refine ro_zret rfl rfl dX6_hears_134 ?_
            refine ⟨?_, rfl, rfl⟩
            rw [hbb]
            simp only [hearP]
            first
              | (rw [decide_eq_false b51, Bool.false_and, Bool.false_or, decide_eq_true (by omega)]; rfl)
              | (rw [decide_eq_false b51, Bool.false_and, Bool.false_or, decide_eq_false (by omega)]; rfl)
              | (rw [decide_eq_false b57, Bool.and_false, Bool.false_or, decide_eq_true (by omega)]; rfl)
              | (rw [decide_eq_false b57, Bool.and_false, Bool.false_or, decide_eq_false (by omega)]; rfl)
          · rw [oI_le (by omega) (by omega) (by omega) (by omega)] at b126
            refine ro_iconst (v := 1) dX6_hears_129 (by decide) ?_
            refine ro_goto 134 dX6_hears_130 (by decide) ?_
            refine ro_zret rfl rfl dX6_hears_134 ?_
            refine ⟨?_, rfl, rfl⟩
            rw [hbb]
            simp only [hearP]
            first
              | (rw [decide_eq_false b51, Bool.false_and, Bool.false_or, decide_eq_true (by omega)]; rfl)
              | (rw [decide_eq_false b51, Bool.false_and, Bool.false_or, decide_eq_false (by omega)]; rfl)
              | (rw [decide_eq_false b57, Bool.and_false, Bool.false_or, decide_eq_true (by omega)]; rfl)
              | (rw [decide_eq_false b57, Bool.and_false, Bool.false_or, decide_eq_false (by omega)]; rfl)
        · rw [nI_leI (by omega) (by omega)] at b65
          refine ro_iload_n dX6_hears_68 rfl rfl ?_
          refine ro_iload dX6_hears_69 rfl ?_
          refine ro_isub dX6_hears_71 ?_
          refine ro_goto 79 dX6_hears_72 (by decide) ?_
          first
            | refine ro_top (show nI k - nI (ln_place ln (sayK ln c)) = nI (away k (ln_place ln (sayK ln c))) from by rw [pk_sub (by omega)]; unfold away; rw [if_pos (by omega)]) ?_
            | refine ro_top (show nI (ln_place ln (sayK ln c)) - nI k = nI (away k (ln_place ln (sayK ln c))) from by rw [pk_sub (by omega), show away k (ln_place ln (sayK ln c)) = (ln_place ln (sayK ln c)) - k by unfold away; split <;> omega]) ?_
          refine ro_istore8 dX6_hears_79 (Nat.le_of_ble_eq_true rfl) rfl ?_
          have haw := aw_lt (i := k) (p := (ln_place ln (sayK ln c))) (by omega) (by omega)
          refine ro_aload_n dX6_hears_81 rfl rfl ?_
          refine gf_X6_saying  in_X6_hears_X6 lk_X6_hears_16 dX6_hears_82 ?_
          refine ro_iconst (v := 3) dX6_hears_85 (by decide) ?_
          refine ro_iload_n dX6_hears_86 rfl rfl ?_
          refine ro_imul dX6_hears_87 ?_
          refine ro_top (show _ = nI (3 * (sayK ln c)) from pk_mul 3 (sayK ln c)) ?_
          refine ro_iconst (v := 2) dX6_hears_88 (by decide) ?_
          refine ro_iadd dX6_hears_89 ?_
          refine ro_top (show _ = nI (3 * (sayK ln c) + 2) from nI_add (3 * (sayK ln c)) (2)) ?_
          refine ro_ai ar_105 rfl (by omega) dX6_hears_90 ?_
          rw [hsy.2.2]
          refine ro_aload_n dX6_hears_91 rfl rfl ?_
          refine gf_X6_now  in_X6_hears_X6 lk_X6_hears_22 dX6_hears_92 ?_
          refine ro_iload dX6_hears_95 rfl ?_
          refine ro_bipush (v := 10) dX6_hears_97 (by decide) ?_
          refine ro_iadd dX6_hears_99 ?_
          refine ro_top (show _ = nI (17 * lv + 10) from nI_add (17 * lv) (10)) ?_
          refine ro_iload dX6_hears_100 rfl ?_
          refine ro_iadd dX6_hears_102 ?_
          refine ro_top (show _ = nI (17 * lv + 10 + (ln_place ln (sayK ln c))) from nI_add (17 * lv + 10) ((ln_place ln (sayK ln c)))) ?_
          refine ro_ai ar_107 rfl (by omega) dX6_hears_103 ?_
          rw [hS.2.2.1 (ln_place ln (sayK ln c)) (by omega)]
          refine ro_iadd dX6_hears_104 ?_
          refine ro_iload dX6_hears_105 rfl ?_
          refine ro_callS1 ok_X6_earOf (cr_earOf (by omega)) gX6_hears_X6_earOf (Nat.le_of_ble_eq_true rfl) (Nat.le_of_ble_eq_true rfl) dX6_hears_107 ?_
          refine ro_iadd dX6_hears_110 ?_
          refine ro_top (show _ = oI ((ln_loud ln (sayK ln c) : Int) + sc_vo c (ln_place ln (sayK ln c)) + earZ (ln_kind ln (sc_who c k))) from by rw [nI_oI, oI_add, oI_add]) ?_
          refine ro_aload_n dX6_hears_111 rfl rfl ?_
          refine gf_X6_wall  in_X6_hears_X6 lk_X6_hears_13 dX6_hears_112 ?_
          refine ro_iload dX6_hears_115 rfl ?_
          refine ro_ai ar_104 rfl (by omega) dX6_hears_117 ?_
          rw [(hL.2.2.2.1 _ hp.1).2]
          refine ro_iconst (v := 2) dX6_hears_118 (by decide) ?_
          refine ro_iload dX6_hears_119 rfl ?_
          refine ro_imul dX6_hears_121 ?_
          refine ro_iadd dX6_hears_122 ?_
          refine ro_iload dX6_hears_123 rfl ?_
          refine ro_iadd dX6_hears_125 ?_
          refine ro_top (show _ = oI ((ln_wall ln (ln_place ln (sayK ln c)) : Int) + 2 * (away k (ln_place ln (sayK ln c)) : Int) + (r : Int)) from by rw [show (2 : Int32) = oI 2 from rfl, nI_oI, nI_oI, nI_oI, oI_mul, oI_add, oI_add]) ?_
          refine ro_icmp_le 133 dX6_hears_126 (by decide) (fun b126 => ?_) (fun b126 => ?_)
          · rw [oI_le (by omega) (by omega) (by omega) (by omega)] at b126
            refine ro_iconst (v := 0) dX6_hears_133 (by decide) ?_
            refine ro_zret rfl rfl dX6_hears_134 ?_
            refine ⟨?_, rfl, rfl⟩
            rw [hbb]
            simp only [hearP]
            first
              | (rw [decide_eq_false b51, Bool.false_and, Bool.false_or, decide_eq_true (by omega)]; rfl)
              | (rw [decide_eq_false b51, Bool.false_and, Bool.false_or, decide_eq_false (by omega)]; rfl)
              | (rw [decide_eq_false b57, Bool.and_false, Bool.false_or, decide_eq_true (by omega)]; rfl)
              | (rw [decide_eq_false b57, Bool.and_false, Bool.false_or, decide_eq_false (by omega)]; rfl)
          · rw [oI_le (by omega) (by omega) (by omega) (by omega)] at b126
            refine ro_iconst (v := 1) dX6_hears_129 (by decide) ?_
            refine ro_goto 134 dX6_hears_130 (by decide) ?_
            refine ro_zret rfl rfl dX6_hears_134 ?_
            refine ⟨?_, rfl, rfl⟩
            rw [hbb]
            simp only [hearP]
            first
              | (rw [decide_eq_false b51, Bool.false_and, Bool.false_or, decide_eq_true (by omega)]; rfl)
              | (rw [decide_eq_false b51, Bool.false_and, Bool.false_or, decide_eq_false (by omega)]; rfl)
              | (rw [decide_eq_false b57, Bool.and_false, Bool.false_or, decide_eq_true (by omega)]; rfl)
              | (rw [decide_eq_false b57, Bool.and_false, Bool.false_or, decide_eq_false (by omega)]; rfl)
      · replace b51 : ln_kind ln (sc_who c k) = 3 := (nI_eq (b := 3) (by omega) (by decide)).mp b51
        refine ro_iload_n dX6_hears_54 rfl rfl ?_
        refine ro_iload dX6_hears_55 rfl ?_
        refine ro_icmp_ne 62 dX6_hears_57 (by decide) (fun b57 => ?_) (fun b57 => ?_)
        · replace b57 : ¬ k = (ln_place ln (sayK ln c)) := fun z => b57 (by rw [← z])
          refine ro_iload_n dX6_hears_62 rfl rfl ?_
          refine ro_iload dX6_hears_63 rfl ?_
          refine ro_icmp_le 75 dX6_hears_65 (by decide) (fun b65 => ?_) (fun b65 => ?_)
          · rw [nI_leI (by omega) (by omega)] at b65
            refine ro_iload dX6_hears_75 rfl ?_
            refine ro_iload_n dX6_hears_77 rfl rfl ?_
            refine ro_isub dX6_hears_78 ?_
            first
              | refine ro_top (show nI k - nI (ln_place ln (sayK ln c)) = nI (away k (ln_place ln (sayK ln c))) from by rw [pk_sub (by omega)]; unfold away; rw [if_pos (by omega)]) ?_
              | refine ro_top (show nI (ln_place ln (sayK ln c)) - nI k = nI (away k (ln_place ln (sayK ln c))) from by rw [pk_sub (by omega), show away k (ln_place ln (sayK ln c)) = (ln_place ln (sayK ln c)) - k by unfold away; split <;> omega]) ?_
            refine ro_istore8 dX6_hears_79 (Nat.le_of_ble_eq_true rfl) rfl ?_
            have haw := aw_lt (i := k) (p := (ln_place ln (sayK ln c))) (by omega) (by omega)
            refine ro_aload_n dX6_hears_81 rfl rfl ?_
            refine gf_X6_saying  in_X6_hears_X6 lk_X6_hears_16 dX6_hears_82 ?_
            refine ro_iconst (v := 3) dX6_hears_85 (by decide) ?_
            refine ro_iload_n dX6_hears_86 rfl rfl ?_
            refine ro_imul dX6_hears_87 ?_
            refine ro_top (show _ = nI (3 * (sayK ln c)) from pk_mul 3 (sayK ln c)) ?_
            refine ro_iconst (v := 2) dX6_hears_88 (by decide) ?_
            refine ro_iadd dX6_hears_89 ?_
            refine ro_top (show _ = nI (3 * (sayK ln c) + 2) from nI_add (3 * (sayK ln c)) (2)) ?_
            refine ro_ai ar_105 rfl (by omega) dX6_hears_90 ?_
            rw [hsy.2.2]
            refine ro_aload_n dX6_hears_91 rfl rfl ?_
            refine gf_X6_now  in_X6_hears_X6 lk_X6_hears_22 dX6_hears_92 ?_
            refine ro_iload dX6_hears_95 rfl ?_
            refine ro_bipush (v := 10) dX6_hears_97 (by decide) ?_
            refine ro_iadd dX6_hears_99 ?_
            refine ro_top (show _ = nI (17 * lv + 10) from nI_add (17 * lv) (10)) ?_
            refine ro_iload dX6_hears_100 rfl ?_
            refine ro_iadd dX6_hears_102 ?_
            refine ro_top (show _ = nI (17 * lv + 10 + (ln_place ln (sayK ln c))) from nI_add (17 * lv + 10) ((ln_place ln (sayK ln c)))) ?_
            refine ro_ai ar_107 rfl (by omega) dX6_hears_103 ?_
            rw [hS.2.2.1 (ln_place ln (sayK ln c)) (by omega)]
            refine ro_iadd dX6_hears_104 ?_
            refine ro_iload dX6_hears_105 rfl ?_
            refine ro_callS1 ok_X6_earOf (cr_earOf (by omega)) gX6_hears_X6_earOf (Nat.le_of_ble_eq_true rfl) (Nat.le_of_ble_eq_true rfl) dX6_hears_107 ?_
            refine ro_iadd dX6_hears_110 ?_
            refine ro_top (show _ = oI ((ln_loud ln (sayK ln c) : Int) + sc_vo c (ln_place ln (sayK ln c)) + earZ (ln_kind ln (sc_who c k))) from by rw [nI_oI, oI_add, oI_add]) ?_
            refine ro_aload_n dX6_hears_111 rfl rfl ?_
            refine gf_X6_wall  in_X6_hears_X6 lk_X6_hears_13 dX6_hears_112 ?_
            refine ro_iload dX6_hears_115 rfl ?_
            refine ro_ai ar_104 rfl (by omega) dX6_hears_117 ?_
            rw [(hL.2.2.2.1 _ hp.1).2]
            refine ro_iconst (v := 2) dX6_hears_118 (by decide) ?_
            refine ro_iload dX6_hears_119 rfl ?_
            refine ro_imul dX6_hears_121 ?_
            refine ro_iadd dX6_hears_122 ?_
            refine ro_iload dX6_hears_123 rfl ?_
            refine ro_iadd dX6_hears_125 ?_
            refine ro_top (show _ = oI ((ln_wall ln (ln_place ln (sayK ln c)) : Int) + 2 * (away k (ln_place ln (sayK ln c)) : Int) + (r : Int)) from by rw [show (2 : Int32) = oI 2 from rfl, nI_oI, nI_oI, nI_oI, oI_mul, oI_add, oI_add]) ?_
            refine ro_icmp_le 133 dX6_hears_126 (by decide) (fun b126 => ?_) (fun b126 => ?_)
            · rw [oI_le (by omega) (by omega) (by omega) (by omega)] at b126
              refine ro_iconst (v := 0) dX6_hears_133 (by decide) ?_
              refine ro_zret rfl rfl dX6_hears_134 ?_
              refine ⟨?_, rfl, rfl⟩
              rw [hbb]
              simp only [hearP]
              first
                | (rw [decide_eq_false b51, Bool.false_and, Bool.false_or, decide_eq_true (by omega)]; rfl)
                | (rw [decide_eq_false b51, Bool.false_and, Bool.false_or, decide_eq_false (by omega)]; rfl)
                | (rw [decide_eq_false b57, Bool.and_false, Bool.false_or, decide_eq_true (by omega)]; rfl)
                | (rw [decide_eq_false b57, Bool.and_false, Bool.false_or, decide_eq_false (by omega)]; rfl)
            · rw [oI_le (by omega) (by omega) (by omega) (by omega)] at b126
              refine ro_iconst (v := 1) dX6_hears_129 (by decide) ?_
              refine ro_goto 134 dX6_hears_130 (by decide) ?_
              refine ro_zret rfl rfl dX6_hears_134 ?_
              refine ⟨?_, rfl, rfl⟩
              rw [hbb]
              simp only [hearP]
              first
                | (rw [decide_eq_false b51, Bool.false_and, Bool.false_or, decide_eq_true (by omega)]; rfl)
                | (rw [decide_eq_false b51, Bool.false_and, Bool.false_or, decide_eq_false (by omega)]; rfl)
                | (rw [decide_eq_false b57, Bool.and_false, Bool.false_or, decide_eq_true (by omega)]; rfl)
                | (rw [decide_eq_false b57, Bool.and_false, Bool.false_or, decide_eq_false (by omega)]; rfl)
          · rw [nI_leI (by omega) (by omega)] at b65
            refine ro_iload_n dX6_hears_68 rfl rfl ?_
            refine ro_iload dX6_hears_69 rfl ?_
            refine ro_isub dX6_hears_71 ?_
            refine ro_goto 79 dX6_hears_72 (by decide) ?_
            first
              | refine ro_top (show nI k - nI (ln_place ln (sayK ln c)) = nI (away k (ln_place ln (sayK ln c))) from by rw [pk_sub (by omega)]; unfold away; rw [if_pos (by omega)]) ?_
              | refine ro_top (show nI (ln_place ln (sayK ln c)) - nI k = nI (away k (ln_place ln (sayK ln c))) from by rw [pk_sub (by omega), show away k (ln_place ln (sayK ln c)) = (ln_place ln (sayK ln c)) - k by unfold away; split <;> omega]) ?_
            refine ro_istore8 dX6_hears_79 (Nat.le_of_ble_eq_true rfl) rfl ?_
            have haw := aw_lt (i := k) (p := (ln_place ln (sayK ln c))) (by omega) (by omega)
            refine ro_aload_n dX6_hears_81 rfl rfl ?_
            refine gf_X6_saying  in_X6_hears_X6 lk_X6_hears_16 dX6_hears_82 ?_
            refine ro_iconst (v := 3) dX6_hears_85 (by decide) ?_
            refine ro_iload_n dX6_hears_86 rfl rfl ?_
            refine ro_imul dX6_hears_87 ?_
            refine ro_top (show _ = nI (3 * (sayK ln c)) from pk_mul 3 (sayK ln c)) ?_
            refine ro_iconst (v := 2) dX6_hears_88 (by decide) ?_
            refine ro_iadd dX6_hears_89 ?_
            refine ro_top (show _ = nI (3 * (sayK ln c) + 2) from nI_add (3 * (sayK ln c)) (2)) ?_
            refine ro_ai ar_105 rfl (by omega) dX6_hears_90 ?_
            rw [hsy.2.2]
            refine ro_aload_n dX6_hears_91 rfl rfl ?_
            refine gf_X6_now  in_X6_hears_X6 lk_X6_hears_22 dX6_hears_92 ?_
            refine ro_iload dX6_hears_95 rfl ?_
            refine ro_bipush (v := 10) dX6_hears_97 (by decide) ?_
            refine ro_iadd dX6_hears_99 ?_
            refine ro_top (show _ = nI (17 * lv + 10) from nI_add (17 * lv) (10)) ?_
            refine ro_iload dX6_hears_100 rfl ?_
            refine ro_iadd dX6_hears_102 ?_
            refine ro_top (show _ = nI (17 * lv + 10 + (ln_place ln (sayK ln c))) from nI_add (17 * lv + 10) ((ln_place ln (sayK ln c)))) ?_
            refine ro_ai ar_107 rfl (by omega) dX6_hears_103 ?_
            rw [hS.2.2.1 (ln_place ln (sayK ln c)) (by omega)]
            refine ro_iadd dX6_hears_104 ?_
            refine ro_iload dX6_hears_105 rfl ?_
            refine ro_callS1 ok_X6_earOf (cr_earOf (by omega)) gX6_hears_X6_earOf (Nat.le_of_ble_eq_true rfl) (Nat.le_of_ble_eq_true rfl) dX6_hears_107 ?_
            refine ro_iadd dX6_hears_110 ?_
            refine ro_top (show _ = oI ((ln_loud ln (sayK ln c) : Int) + sc_vo c (ln_place ln (sayK ln c)) + earZ (ln_kind ln (sc_who c k))) from by rw [nI_oI, oI_add, oI_add]) ?_
            refine ro_aload_n dX6_hears_111 rfl rfl ?_
            refine gf_X6_wall  in_X6_hears_X6 lk_X6_hears_13 dX6_hears_112 ?_
            refine ro_iload dX6_hears_115 rfl ?_
            refine ro_ai ar_104 rfl (by omega) dX6_hears_117 ?_
            rw [(hL.2.2.2.1 _ hp.1).2]
            refine ro_iconst (v := 2) dX6_hears_118 (by decide) ?_
            refine ro_iload dX6_hears_119 rfl ?_
            refine ro_imul dX6_hears_121 ?_
            refine ro_iadd dX6_hears_122 ?_
            refine ro_iload dX6_hears_123 rfl ?_
            refine ro_iadd dX6_hears_125 ?_
            refine ro_top (show _ = oI ((ln_wall ln (ln_place ln (sayK ln c)) : Int) + 2 * (away k (ln_place ln (sayK ln c)) : Int) + (r : Int)) from by rw [show (2 : Int32) = oI 2 from rfl, nI_oI, nI_oI, nI_oI, oI_mul, oI_add, oI_add]) ?_
            refine ro_icmp_le 133 dX6_hears_126 (by decide) (fun b126 => ?_) (fun b126 => ?_)
            · rw [oI_le (by omega) (by omega) (by omega) (by omega)] at b126
              refine ro_iconst (v := 0) dX6_hears_133 (by decide) ?_
              refine ro_zret rfl rfl dX6_hears_134 ?_
              refine ⟨?_, rfl, rfl⟩
              rw [hbb]
              simp only [hearP]
              first
                | (rw [decide_eq_false b51, Bool.false_and, Bool.false_or, decide_eq_true (by omega)]; rfl)
                | (rw [decide_eq_false b51, Bool.false_and, Bool.false_or, decide_eq_false (by omega)]; rfl)
                | (rw [decide_eq_false b57, Bool.and_false, Bool.false_or, decide_eq_true (by omega)]; rfl)
                | (rw [decide_eq_false b57, Bool.and_false, Bool.false_or, decide_eq_false (by omega)]; rfl)
            · rw [oI_le (by omega) (by omega) (by omega) (by omega)] at b126
              refine ro_iconst (v := 1) dX6_hears_129 (by decide) ?_
              refine ro_goto 134 dX6_hears_130 (by decide) ?_
              refine ro_zret rfl rfl dX6_hears_134 ?_
              refine ⟨?_, rfl, rfl⟩
              rw [hbb]
              simp only [hearP]
              first
                | (rw [decide_eq_false b51, Bool.false_and, Bool.false_or, decide_eq_true (by omega)]; rfl)
                | (rw [decide_eq_false b51, Bool.false_and, Bool.false_or, decide_eq_false (by omega)]; rfl)
                | (rw [decide_eq_false b57, Bool.and_false, Bool.false_or, decide_eq_true (by omega)]; rfl)
                | (rw [decide_eq_false b57, Bool.and_false, Bool.false_or, decide_eq_false (by omega)]; rfl)
        · replace b57 : k = (ln_place ln (sayK ln c)) := (nI_eq (by omega) (by omega)).mp b57
          refine ro_iconst (v := 1) dX6_hears_60 (by decide) ?_
          refine ro_zret rfl rfl dX6_hears_61 ?_
          refine ⟨?_, rfl, rfl⟩
          rw [hbb]
          simp only [hearP]
          rw [decide_eq_true b51, decide_eq_true b57]
          rfl
    · rw [bI_ne0, decide_eq_true_eq] at b11
      refine ro_iconst (v := 0) dX6_hears_14 (by decide) ?_
      refine ro_zret rfl rfl dX6_hears_15 ?_
      exact ⟨by rw [show hearB ln c r k = false by simp [hearB, *]]; rfl, rfl, rfl⟩
