theorem in_r {x a b : Int32} {A B : Int64} (hA : A.toInt = a.toInt) (hB : B.toInt = b.toInt) : inB x.toInt64 A B = decide (¬ x < a ∧ ¬ b < x) := by
  rw [in_ab]
  apply decide_eq_decide.mpr
  rw [Int32.lt_iff_toInt_lt, Int32.lt_iff_toInt_lt, hA, hB]
  omega
theorem in_rs {x : Int32} {lo hi : Nat} (hl : lo < 2 ^ 31) (hh : hi < 2 ^ 31) (h1 : ¬ x < nI lo) (h2 : ¬ nI hi < x) : ∃ k, lo ≤ k ∧ k ≤ hi ∧ x = nI k := by
  rw [Int32.lt_iff_toInt_lt, nI_toInt (by assumption)] at h1 h2
  refine ⟨x.toInt.toNat, by omega, by omega, ?_⟩
  rw [← Int32.toInt_inj, nI_toInt (by omega)]
  omega
theorem ScR.vo {f : Nat → Int32} {lv n k : Nat} {c : SC} {z : Int} (hS : ScR f (17 * lv) n c) (hk : k < 5) : ScR (upd f (17 * lv + 10 + k) (oI z)) (17 * lv) n (sc_who c, sc_kn c, va_up (sc_vo c) k z, sc_dry c, sc_hr c) := by
  obtain ⟨h1, ⟨gk, h2, h3⟩, h4, h5, h6⟩ := hS
  refine ⟨fun j hj => by rw [pk_un (by omega)]; exact h1 j hj, ⟨gk, fun q hq => by rw [pk_un (by omega)]; exact h2 q hq, h3⟩, fun j hj => ?_, by rw [pk_un (by omega)]; exact h5, by rw [pk_un (by omega)]; exact h6⟩
  show _ = oI (va_up (sc_vo c) k z j)
  by_cases e : j = k
  · subst e; rw [va_up_self, pk_us]
  · rw [va_up_ne _ _ e, pk_un (by omega)]; exact h4 j hj
def QT (ln : LN) (c : SC) (a mb d : Nat) (M : MM) (L : LL) : Option Value → MM → LL → Prop := fun v M' L' => v = some (.int (bI (actJ ln c a mb d).1)) ∧ ((a ≠ 0 ∨ (actJ ln c a mb d).1 = true) → ScR (M' 107) (17 * 1) (ln_n ln) (actJ ln c a mb d).2) ∧ (∀ q, (q < 17 * 1 ∨ 17 * 1 + 17 ≤ q) → M' 107 q = M 107 q) ∧ OnlyB 107 107 M M' ∧ L' = L
theorem cr_try {g : GT} {M : MM} {L : LL} {ln : LN} {c : SC} {b a mb d : Nat} (hL : RLn M ln) (ok : LnOK ln) (hS : ScR (M 107) (17 * 1) (ln_n ln) c) (oc : ScOK (ln_n ln) b c) (hb : b < 2 ^ 29) (ha : a < 10) (hm : mb < 10) (hd : d < 10) : CTQ g mX6_tryThing 4 [.ref (dq_A g 102), .int (nI a), .int (nI mb), .int (nI d)] M L (QT ln c a mb d M L) := by
  have a1 := ok.1
  refine ct_of ok_X6_tryThing (lv := [some (.ref (dq_A g 102)), some (.int (nI a)), some (.int (nI mb)), some (.int (nI d)), none, none, none, none]) rfl (Nat.le_of_ble_eq_true rfl) ?_
  refine ro_iload_n dX6_tryThing_0 rfl rfl ?_
  have hsp : ((nI a).toInt < 0 ∨ 6 < (nI a).toInt) ∨ a = 0 ∨ a = 1 ∨ a = 2 ∨ a = 3 ∨ a = 4 ∨ a = 5 ∨ a = 6 := by
    rw [nI_toInt (by omega)]
    omega
  rcases hsp with hsw | rfl | rfl | rfl | rfl | rfl | rfl | rfl
  · refine ro_tableOut 311 dX6_tryThing_1 hsw (by decide) ?_
    refine ro_iconst (v := 0) dX6_tryThing_311 (by decide) ?_
    refine ro_zret rfl rfl dX6_tryThing_312 ?_
    have hn2 : ∀ q : Nat, q < 7 → ¬ a = q := fun q hq z => by
      subst z
      rw [nI_toInt (by omega)] at hsw
      omega
    unfold QT actJ
    rw [if_neg (hn2 0 (by decide)), if_neg (hn2 1 (by decide)), if_neg (hn2 2 (by decide)), if_neg (hn2 3 (by decide)), if_neg (hn2 4 (by decide)), if_neg (hn2 5 (by decide)), if_neg (hn2 6 (by decide))]
    exact ⟨rfl, fun _ => hS, fun _ _ => rfl, OnlyB.rf, rfl⟩
  · refine ro_tableIn 44 dX6_tryThing_1 (by decide) (by decide) rfl (by decide) ?_
    refine ro_aload_n dX6_tryThing_44 rfl rfl ?_
    refine ro_iconst (v := 1) dX6_tryThing_45 (by decide) ?_
    refine ro_callV1Q ok_X6_goOn (cr_goOn (n := 1) hL ok hS oc (by omega)) ce_X6 rfl rfl gX6_tryThing_X6_goOn (Nat.le_of_ble_eq_true rfl) (Nat.le_of_ble_eq_true rfl) dX6_tryThing_46 (fun v46 M46 L46 q46 => ?_)
    obtain ⟨rfl, hS46, hq46, ho46, rfl⟩ := q46
    refine ro_iload_n dX6_tryThing_49 rfl rfl ?_
    refine ro_if_ne 61 dX6_tryThing_50 (by decide) (fun b50 => ?_) (fun b50 => ?_)
    · replace b50 : ¬ mb = 0 := fun z => b50 (by rw [z]; rfl)
      refine ro_iconst (v := 0) dX6_tryThing_61 (by decide) ?_
      refine ro_zret rfl rfl dX6_tryThing_62 ?_
      unfold QT actJ
      rw [if_pos (show (0 : Nat) = 0 from rfl)]
      first
        | (rw [if_pos ⟨b50, b54⟩]; exact ⟨rfl, fun _ => hS46, hq46, ho46, rfl⟩)
        | (rw [if_neg (by omega)]; exact ⟨rfl, fun z => z.elim (fun q => absurd rfl q) (fun q => by cases q), hq46, ho46, rfl⟩)
    · replace b50 : mb = 0 := (nI_eq (b := 0) (by omega) (by decide)).mp b50
      refine ro_iload_n dX6_tryThing_53 rfl rfl ?_
      refine ro_if_ne 61 dX6_tryThing_54 (by decide) (fun b54 => ?_) (fun b54 => ?_)
      · replace b54 : ¬ d = 0 := fun z => b54 (by rw [z]; rfl)
        refine ro_iconst (v := 0) dX6_tryThing_61 (by decide) ?_
        refine ro_zret rfl rfl dX6_tryThing_62 ?_
        unfold QT actJ
        rw [if_pos (show (0 : Nat) = 0 from rfl)]
        first
          | (rw [if_pos ⟨b50, b54⟩]; exact ⟨rfl, fun _ => hS46, hq46, ho46, rfl⟩)
          | (rw [if_neg (by omega)]; exact ⟨rfl, fun z => z.elim (fun q => absurd rfl q) (fun q => by cases q), hq46, ho46, rfl⟩)
      · replace b54 : d = 0 := (nI_eq (b := 0) (by omega) (by decide)).mp b54
        refine ro_iconst (v := 1) dX6_tryThing_57 (by decide) ?_
        refine ro_goto 62 dX6_tryThing_58 (by decide) ?_
        refine ro_zret rfl rfl dX6_tryThing_62 ?_
        unfold QT actJ
        rw [if_pos (show (0 : Nat) = 0 from rfl)]
        first
          | (rw [if_pos ⟨b50, b54⟩]; exact ⟨rfl, fun _ => hS46, hq46, ho46, rfl⟩)
          | (rw [if_neg (by omega)]; exact ⟨rfl, fun z => z.elim (fun q => absurd rfl q) (fun q => by cases q), hq46, ho46, rfl⟩)
  · refine ro_tableIn 63 dX6_tryThing_1 (by decide) (by decide) rfl (by decide) ?_
    refine ro_iload_n dX6_tryThing_63 rfl rfl ?_
    refine ro_if_ne 93 dX6_tryThing_64 (by decide) (fun b64 => ?_) (fun b64 => ?_)
    · replace b64 : ¬ mb = 0 := fun z => b64 (by rw [z]; rfl)
      refine ro_iconst (v := 0) dX6_tryThing_93 (by decide) ?_
      refine ro_istore4 dX6_tryThing_94 (Nat.le_of_ble_eq_true rfl) rfl ?_
      refine ro_iload dX6_tryThing_96 rfl ?_
      refine ro_if_eq 114 dX6_tryThing_98 (by decide) (fun b98 => ?_) (fun b98 => ?_)
      · refine ro_iload dX6_tryThing_114 rfl ?_
        refine ro_zret rfl rfl dX6_tryThing_116 ?_
        unfold QT actJ
        rw [if_neg (show ¬ (1 : Nat) = 0 by decide), if_pos (show (1 : Nat) = 1 from rfl)]
        first
          | (have hcn : canL (ln_n ln) c d = true := by unfold canL; rw [b72, decide_eq_true (by omega)]; rfl
             have r7 : M113 107 = upd (M 107) (27 + d) (oI (sc_vo c d - 1)) := by rw [e113, va_up_self]
             rw [if_pos ⟨b64, hcn⟩]
             refine ⟨rfl, fun _ => ?_, fun q hq => by rw [r7, pk_un (by omega)], OnlyB.up e113 (by decide) (by decide), rfl⟩
             rw [r7]
             exact hS.vo (z := sc_vo c d - 1) (by omega))
          | (rw [if_neg (fun z => by
               have z2 := z.2
               unfold canL at z2
               first
                 | exact absurd z.1 b64
                 | (rw [b72] at z2; cases z2)
                 | (rw [Bool.and_eq_true, decide_eq_true_eq, decide_eq_true_eq] at z2; omega))]
             exact ⟨rfl, fun _ => hS, fun _ _ => rfl, OnlyB.rf, rfl⟩)
      · exact absurd b98 (by decide)
    · replace b64 : mb = 0 := (nI_eq (b := 0) (by omega) (by decide)).mp b64
      refine ro_aload_n dX6_tryThing_67 rfl rfl ?_
      refine ro_iload_n dX6_tryThing_68 rfl rfl ?_
      refine ro_callV1 ok_X6_isHouse (cr_isHouse hL ok (nI d)) ce_X6 rfl rfl gX6_tryThing_X6_isHouse (Nat.le_of_ble_eq_true rfl) (Nat.le_of_ble_eq_true rfl) dX6_tryThing_69 ?_
      rw [hB_nI (by omega) (by omega)]
      refine ro_if_eq 93 dX6_tryThing_72 (by decide) (fun b72 => ?_) (fun b72 => ?_)
      · rw [bI_eq0] at b72
        refine ro_iconst (v := 0) dX6_tryThing_93 (by decide) ?_
        refine ro_istore4 dX6_tryThing_94 (Nat.le_of_ble_eq_true rfl) rfl ?_
        refine ro_iload dX6_tryThing_96 rfl ?_
        refine ro_if_eq 114 dX6_tryThing_98 (by decide) (fun b98 => ?_) (fun b98 => ?_)
        · refine ro_iload dX6_tryThing_114 rfl ?_
          refine ro_zret rfl rfl dX6_tryThing_116 ?_
          unfold QT actJ
          rw [if_neg (show ¬ (1 : Nat) = 0 by decide), if_pos (show (1 : Nat) = 1 from rfl)]
          first
            | (have hcn : canL (ln_n ln) c d = true := by unfold canL; rw [b72, decide_eq_true (by omega)]; rfl
               have r7 : M113 107 = upd (M 107) (27 + d) (oI (sc_vo c d - 1)) := by rw [e113, va_up_self]
               rw [if_pos ⟨b64, hcn⟩]
               refine ⟨rfl, fun _ => ?_, fun q hq => by rw [r7, pk_un (by omega)], OnlyB.up e113 (by decide) (by decide), rfl⟩
               rw [r7]
               exact hS.vo (z := sc_vo c d - 1) (by omega))
            | (rw [if_neg (fun z => by
                 have z2 := z.2
                 unfold canL at z2
                 first
                   | exact absurd z.1 b64
                   | (rw [b72] at z2; cases z2)
                   | (rw [Bool.and_eq_true, decide_eq_true_eq, decide_eq_true_eq] at z2; omega))]
               exact ⟨rfl, fun _ => hS, fun _ _ => rfl, OnlyB.rf, rfl⟩)
        · exact absurd b98 (by decide)
      · rw [bI_ne0] at b72
        have b72q := of_decide_eq_true b72
        refine ro_aload_n dX6_tryThing_75 rfl rfl ?_
        refine gf_X6_now  in_X6_tryThing_X6 lk_X6_tryThing_22 dX6_tryThing_76 ?_
        refine ro_bipush (v := 27) dX6_tryThing_79 (by decide) ?_
        refine ro_iload_n dX6_tryThing_81 rfl rfl ?_
        refine ro_iadd dX6_tryThing_82 ?_
        refine ro_top (show _ = nI (27 + d) from nI_add (27) (d)) ?_
        refine ro_ai ar_107 rfl (by omega) dX6_tryThing_83 ?_
        have hv := oc.2.2.2.1 d
        rw [show M 107 (27 + d) = oI (sc_vo c d) from hS.2.2.1 d (by omega)]
        refine ro_bipush (v := -3) dX6_tryThing_84 (by decide) ?_
        refine ro_icmp_le 93 dX6_tryThing_86 (by decide) (fun b86 => ?_) (fun b86 => ?_)
        · rw [show (-3 : Int32) = oI (-3) from rfl, oI_le (by omega) (by omega) (by omega) (by omega)] at b86
          refine ro_iconst (v := 0) dX6_tryThing_93 (by decide) ?_
          refine ro_istore4 dX6_tryThing_94 (Nat.le_of_ble_eq_true rfl) rfl ?_
          refine ro_iload dX6_tryThing_96 rfl ?_
          refine ro_if_eq 114 dX6_tryThing_98 (by decide) (fun b98 => ?_) (fun b98 => ?_)
          · refine ro_iload dX6_tryThing_114 rfl ?_
            refine ro_zret rfl rfl dX6_tryThing_116 ?_
            unfold QT actJ
            rw [if_neg (show ¬ (1 : Nat) = 0 by decide), if_pos (show (1 : Nat) = 1 from rfl)]
            first
              | (have hcn : canL (ln_n ln) c d = true := by unfold canL; rw [b72, decide_eq_true (by omega)]; rfl
                 have r7 : M113 107 = upd (M 107) (27 + d) (oI (sc_vo c d - 1)) := by rw [e113, va_up_self]
                 rw [if_pos ⟨b64, hcn⟩]
                 refine ⟨rfl, fun _ => ?_, fun q hq => by rw [r7, pk_un (by omega)], OnlyB.up e113 (by decide) (by decide), rfl⟩
                 rw [r7]
                 exact hS.vo (z := sc_vo c d - 1) (by omega))
              | (rw [if_neg (fun z => by
                   have z2 := z.2
                   unfold canL at z2
                   first
                     | exact absurd z.1 b64
                     | (rw [b72] at z2; cases z2)
                     | (rw [Bool.and_eq_true, decide_eq_true_eq, decide_eq_true_eq] at z2; omega))]
                 exact ⟨rfl, fun _ => hS, fun _ _ => rfl, OnlyB.rf, rfl⟩)
          · exact absurd b98 (by decide)
        · rw [show (-3 : Int32) = oI (-3) from rfl, oI_le (by omega) (by omega) (by omega) (by omega)] at b86
          refine ro_iconst (v := 1) dX6_tryThing_89 (by decide) ?_
          refine ro_goto 94 dX6_tryThing_90 (by decide) ?_
          refine ro_istore4 dX6_tryThing_94 (Nat.le_of_ble_eq_true rfl) rfl ?_
          refine ro_iload dX6_tryThing_96 rfl ?_
          refine ro_if_eq 114 dX6_tryThing_98 (by decide) (fun b98 => ?_) (fun b98 => ?_)
          · exact absurd b98 (by decide)
          · refine ro_aload_n dX6_tryThing_101 rfl rfl ?_
            refine gf_X6_now  in_X6_tryThing_X6 lk_X6_tryThing_22 dX6_tryThing_102 ?_
            refine ro_bipush (v := 27) dX6_tryThing_105 (by decide) ?_
            refine ro_iload_n dX6_tryThing_107 rfl rfl ?_
            refine ro_iadd dX6_tryThing_108 ?_
            refine ro_top (show _ = nI (27 + d) from nI_add (27) (d)) ?_
            refine ro_dup2 dX6_tryThing_109 rfl rfl ?_
            refine ro_ai ar_107 rfl (by omega) dX6_tryThing_110 ?_
            rw [show M 107 (27 + d) = oI (sc_vo c d) from hS.2.2.1 d (by omega)]
            refine ro_iconst (v := 1) dX6_tryThing_111 (by decide) ?_
            refine ro_isub dX6_tryThing_112 ?_
            rw [show (1 : Int32) = oI 1 from rfl, oI_sub]
            refine ro_as ar_107 rfl (by omega) dX6_tryThing_113 (fun M113 e113 => ?_)
            refine ro_iload dX6_tryThing_114 rfl ?_
            refine ro_zret rfl rfl dX6_tryThing_116 ?_
            unfold QT actJ
            rw [if_neg (show ¬ (1 : Nat) = 0 by decide), if_pos (show (1 : Nat) = 1 from rfl)]
            first
              | (have hcn : canL (ln_n ln) c d = true := by unfold canL; rw [b72, decide_eq_true (by omega)]; rfl
                 have r7 : M113 107 = upd (M 107) (27 + d) (oI (sc_vo c d - 1)) := by rw [e113, va_up_self]
                 rw [if_pos ⟨b64, hcn⟩]
                 refine ⟨rfl, fun _ => ?_, fun q hq => by rw [r7, pk_un (by omega)], OnlyB.up e113 (by decide) (by decide), rfl⟩
                 rw [r7]
                 exact hS.vo (z := sc_vo c d - 1) (by omega))
              | (rw [if_neg (fun z => by
                   have z2 := z.2
                   unfold canL at z2
                   first
                     | exact absurd z.1 b64
                     | (rw [b72] at z2; cases z2)
                     | (rw [Bool.and_eq_true, decide_eq_true_eq, decide_eq_true_eq] at z2; omega))]
                 exact ⟨rfl, fun _ => hS, fun _ _ => rfl, OnlyB.rf, rfl⟩)
  · refine ro_tableIn 117 dX6_tryThing_1 (by decide) (by decide) rfl (by decide) ?_
    refine ro_iload_n dX6_tryThing_117 rfl rfl ?_
    refine ro_if_ne 146 dX6_tryThing_118 (by decide) (fun b118 => ?_) (fun b118 => ?_)
    · replace b118 : ¬ mb = 0 := fun z => b118 (by rw [z]; rfl)
      refine ro_iconst (v := 0) dX6_tryThing_146 (by decide) ?_
      refine ro_istore5 dX6_tryThing_147 (Nat.le_of_ble_eq_true rfl) rfl ?_
      refine ro_iload dX6_tryThing_149 rfl ?_
      refine ro_if_eq 167 dX6_tryThing_151 (by decide) (fun b151 => ?_) (fun b151 => ?_)
      · refine ro_iload dX6_tryThing_167 rfl ?_
        refine ro_zret rfl rfl dX6_tryThing_169 ?_
        unfold QT actJ
        rw [if_neg (show ¬ (2 : Nat) = 0 by decide), if_neg (show ¬ (2 : Nat) = 1 by decide), if_pos (show (2 : Nat) = 2 from rfl)]
        first
          | (have hcn : canR (ln_n ln) c d = true := by unfold canR; rw [b126, decide_eq_true (by omega)]; rfl
             have r7 : M166 107 = upd (M 107) (27 + d) (oI (sc_vo c d + 1)) := by rw [e166, va_up_self]
             rw [if_pos ⟨b118, hcn⟩]
             refine ⟨rfl, fun _ => ?_, fun q hq => by rw [r7, pk_un (by omega)], OnlyB.up e166 (by decide) (by decide), rfl⟩
             rw [r7]
             exact hS.vo (z := sc_vo c d + 1) (by omega))
          | (rw [if_neg (fun z => by
               have z2 := z.2
               unfold canR at z2
               first
                 | exact absurd z.1 b118
                 | (rw [b126] at z2; cases z2)
                 | (rw [Bool.and_eq_true, decide_eq_true_eq, decide_eq_true_eq] at z2; omega))]
             exact ⟨rfl, fun _ => hS, fun _ _ => rfl, OnlyB.rf, rfl⟩)
      · exact absurd b151 (by decide)
    · replace b118 : mb = 0 := (nI_eq (b := 0) (by omega) (by decide)).mp b118
      refine ro_aload_n dX6_tryThing_121 rfl rfl ?_
      refine ro_iload_n dX6_tryThing_122 rfl rfl ?_
      refine ro_callV1 ok_X6_isHouse (cr_isHouse hL ok (nI d)) ce_X6 rfl rfl gX6_tryThing_X6_isHouse (Nat.le_of_ble_eq_true rfl) (Nat.le_of_ble_eq_true rfl) dX6_tryThing_123 ?_
      rw [hB_nI (by omega) (by omega)]
      refine ro_if_eq 146 dX6_tryThing_126 (by decide) (fun b126 => ?_) (fun b126 => ?_)
      · rw [bI_eq0] at b126
        refine ro_iconst (v := 0) dX6_tryThing_146 (by decide) ?_
        refine ro_istore5 dX6_tryThing_147 (Nat.le_of_ble_eq_true rfl) rfl ?_
        refine ro_iload dX6_tryThing_149 rfl ?_
        refine ro_if_eq 167 dX6_tryThing_151 (by decide) (fun b151 => ?_) (fun b151 => ?_)
        · refine ro_iload dX6_tryThing_167 rfl ?_
          refine ro_zret rfl rfl dX6_tryThing_169 ?_
          unfold QT actJ
          rw [if_neg (show ¬ (2 : Nat) = 0 by decide), if_neg (show ¬ (2 : Nat) = 1 by decide), if_pos (show (2 : Nat) = 2 from rfl)]
          first
            | (have hcn : canR (ln_n ln) c d = true := by unfold canR; rw [b126, decide_eq_true (by omega)]; rfl
               have r7 : M166 107 = upd (M 107) (27 + d) (oI (sc_vo c d + 1)) := by rw [e166, va_up_self]
               rw [if_pos ⟨b118, hcn⟩]
               refine ⟨rfl, fun _ => ?_, fun q hq => by rw [r7, pk_un (by omega)], OnlyB.up e166 (by decide) (by decide), rfl⟩
               rw [r7]
               exact hS.vo (z := sc_vo c d + 1) (by omega))
            | (rw [if_neg (fun z => by
                 have z2 := z.2
                 unfold canR at z2
                 first
                   | exact absurd z.1 b118
                   | (rw [b126] at z2; cases z2)
                   | (rw [Bool.and_eq_true, decide_eq_true_eq, decide_eq_true_eq] at z2; omega))]
               exact ⟨rfl, fun _ => hS, fun _ _ => rfl, OnlyB.rf, rfl⟩)
        · exact absurd b151 (by decide)
      · rw [bI_ne0] at b126
        have b126q := of_decide_eq_true b126
        refine ro_aload_n dX6_tryThing_129 rfl rfl ?_
        refine gf_X6_now  in_X6_tryThing_X6 lk_X6_tryThing_22 dX6_tryThing_130 ?_
        refine ro_bipush (v := 27) dX6_tryThing_133 (by decide) ?_
        refine ro_iload_n dX6_tryThing_135 rfl rfl ?_
        refine ro_iadd dX6_tryThing_136 ?_
        refine ro_top (show _ = nI (27 + d) from nI_add (27) (d)) ?_
        refine ro_ai ar_107 rfl (by omega) dX6_tryThing_137 ?_
        have hv := oc.2.2.2.1 d
        rw [show M 107 (27 + d) = oI (sc_vo c d) from hS.2.2.1 d (by omega)]
        refine ro_iconst (v := 3) dX6_tryThing_138 (by decide) ?_
        refine ro_icmp_ge 146 dX6_tryThing_139 (by decide) (fun b139 => ?_) (fun b139 => ?_)
        · rw [show (3 : Int32) = oI (3) from rfl, oI_le (by omega) (by omega) (by omega) (by omega)] at b139
          refine ro_iconst (v := 0) dX6_tryThing_146 (by decide) ?_
          refine ro_istore5 dX6_tryThing_147 (Nat.le_of_ble_eq_true rfl) rfl ?_
          refine ro_iload dX6_tryThing_149 rfl ?_
          refine ro_if_eq 167 dX6_tryThing_151 (by decide) (fun b151 => ?_) (fun b151 => ?_)
          · refine ro_iload dX6_tryThing_167 rfl ?_
            refine ro_zret rfl rfl dX6_tryThing_169 ?_
            unfold QT actJ
            rw [if_neg (show ¬ (2 : Nat) = 0 by decide), if_neg (show ¬ (2 : Nat) = 1 by decide), if_pos (show (2 : Nat) = 2 from rfl)]
            first
              | (have hcn : canR (ln_n ln) c d = true := by unfold canR; rw [b126, decide_eq_true (by omega)]; rfl
                 have r7 : M166 107 = upd (M 107) (27 + d) (oI (sc_vo c d + 1)) := by rw [e166, va_up_self]
                 rw [if_pos ⟨b118, hcn⟩]
                 refine ⟨rfl, fun _ => ?_, fun q hq => by rw [r7, pk_un (by omega)], OnlyB.up e166 (by decide) (by decide), rfl⟩
                 rw [r7]
                 exact hS.vo (z := sc_vo c d + 1) (by omega))
              | (rw [if_neg (fun z => by
                   have z2 := z.2
                   unfold canR at z2
                   first
                     | exact absurd z.1 b118
                     | (rw [b126] at z2; cases z2)
                     | (rw [Bool.and_eq_true, decide_eq_true_eq, decide_eq_true_eq] at z2; omega))]
                 exact ⟨rfl, fun _ => hS, fun _ _ => rfl, OnlyB.rf, rfl⟩)
          · exact absurd b151 (by decide)
        · rw [show (3 : Int32) = oI (3) from rfl, oI_le (by omega) (by omega) (by omega) (by omega)] at b139
          refine ro_iconst (v := 1) dX6_tryThing_142 (by decide) ?_
          refine ro_goto 147 dX6_tryThing_143 (by decide) ?_
          refine ro_istore5 dX6_tryThing_147 (Nat.le_of_ble_eq_true rfl) rfl ?_
          refine ro_iload dX6_tryThing_149 rfl ?_
          refine ro_if_eq 167 dX6_tryThing_151 (by decide) (fun b151 => ?_) (fun b151 => ?_)
          · exact absurd b151 (by decide)
          · refine ro_aload_n dX6_tryThing_154 rfl rfl ?_
            refine gf_X6_now  in_X6_tryThing_X6 lk_X6_tryThing_22 dX6_tryThing_155 ?_
            refine ro_bipush (v := 27) dX6_tryThing_158 (by decide) ?_
            refine ro_iload_n dX6_tryThing_160 rfl rfl ?_
            refine ro_iadd dX6_tryThing_161 ?_
            refine ro_top (show _ = nI (27 + d) from nI_add (27) (d)) ?_
            refine ro_dup2 dX6_tryThing_162 rfl rfl ?_
            refine ro_ai ar_107 rfl (by omega) dX6_tryThing_163 ?_
            rw [show M 107 (27 + d) = oI (sc_vo c d) from hS.2.2.1 d (by omega)]
            refine ro_iconst (v := 1) dX6_tryThing_164 (by decide) ?_
            refine ro_iadd dX6_tryThing_165 ?_
            rw [show (1 : Int32) = oI 1 from rfl, oI_add]
            refine ro_as ar_107 rfl (by omega) dX6_tryThing_166 (fun M166 e166 => ?_)
            refine ro_iload dX6_tryThing_167 rfl ?_
            refine ro_zret rfl rfl dX6_tryThing_169 ?_
            unfold QT actJ
            rw [if_neg (show ¬ (2 : Nat) = 0 by decide), if_neg (show ¬ (2 : Nat) = 1 by decide), if_pos (show (2 : Nat) = 2 from rfl)]
            first
              | (have hcn : canR (ln_n ln) c d = true := by unfold canR; rw [b126, decide_eq_true (by omega)]; rfl
                 have r7 : M166 107 = upd (M 107) (27 + d) (oI (sc_vo c d + 1)) := by rw [e166, va_up_self]
                 rw [if_pos ⟨b118, hcn⟩]
                 refine ⟨rfl, fun _ => ?_, fun q hq => by rw [r7, pk_un (by omega)], OnlyB.up e166 (by decide) (by decide), rfl⟩
                 rw [r7]
                 exact hS.vo (z := sc_vo c d + 1) (by omega))
              | (rw [if_neg (fun z => by
                   have z2 := z.2
                   unfold canR at z2
                   first
                     | exact absurd z.1 b118
                     | (rw [b126] at z2; cases z2)
                     | (rw [Bool.and_eq_true, decide_eq_true_eq, decide_eq_true_eq] at z2; omega))]
                 exact ⟨rfl, fun _ => hS, fun _ _ => rfl, OnlyB.rf, rfl⟩)
  · refine ro_tableIn 170 dX6_tryThing_1 (by decide) (by decide) rfl (by decide) ?_
    refine ro_aload_n dX6_tryThing_170 rfl rfl ?_
    refine ro_iload_n dX6_tryThing_171 rfl rfl ?_
    refine ro_callV1 ok_X6_isHouse (cr_isHouse hL ok (nI mb)) ce_X6 rfl rfl gX6_tryThing_X6_isHouse (Nat.le_of_ble_eq_true rfl) (Nat.le_of_ble_eq_true rfl) dX6_tryThing_172 ?_
    rw [hB_nI (by omega) (by omega)]
    refine ro_if_eq 195 dX6_tryThing_175 (by decide) (fun b175 => ?_) (fun b175 => ?_)
    · rw [bI_eq0] at b175
      refine ro_iconst (v := 0) dX6_tryThing_195 (by decide) ?_
      refine ro_istore6 dX6_tryThing_196 (Nat.le_of_ble_eq_true rfl) rfl ?_
      refine ro_iload dX6_tryThing_198 rfl ?_
      refine ro_if_eq 210 dX6_tryThing_200 (by decide) (fun b200 => ?_) (fun b200 => ?_)
      · refine ro_iload dX6_tryThing_210 rfl ?_
        refine ro_zret rfl rfl dX6_tryThing_212 ?_
        unfold QT actJ
        rw [if_neg (show ¬ (3 : Nat) = 0 by decide), if_neg (show ¬ (3 : Nat) = 1 by decide), if_neg (show ¬ (3 : Nat) = 2 by decide), if_pos (show (3 : Nat) = 3 from rfl)]
        first
          | (have hcn : canC (ln_n ln) mb d = true := by unfold canC; rw [b175, b183, decide_eq_false b188]; rfl
             rw [if_pos hcn]
             exact ⟨rfl, fun _ => hS207, hq207, ho207, rfl⟩)
          | (rw [if_neg (fun z => by
               unfold canC at z
               first
                 | (rw [b175] at z; cases z)
                 | (rw [b175, b183] at z; cases z)
                 | (rw [decide_eq_true b188, Bool.not_true, Bool.and_false, Bool.and_false] at z; cases z))]
             exact ⟨rfl, fun _ => hS, fun _ _ => rfl, OnlyB.rf, rfl⟩)
      · exact absurd b200 (by decide)
    · rw [bI_ne0] at b175
      have b175q := of_decide_eq_true b175
      refine ro_aload_n dX6_tryThing_178 rfl rfl ?_
      refine ro_iload_n dX6_tryThing_179 rfl rfl ?_
      refine ro_callV1 ok_X6_isHouse (cr_isHouse hL ok (nI d)) ce_X6 rfl rfl gX6_tryThing_X6_isHouse (Nat.le_of_ble_eq_true rfl) (Nat.le_of_ble_eq_true rfl) dX6_tryThing_180 ?_
      rw [hB_nI (by omega) (by omega)]
      refine ro_if_eq 195 dX6_tryThing_183 (by decide) (fun b183 => ?_) (fun b183 => ?_)
      · rw [bI_eq0] at b183
        refine ro_iconst (v := 0) dX6_tryThing_195 (by decide) ?_
        refine ro_istore6 dX6_tryThing_196 (Nat.le_of_ble_eq_true rfl) rfl ?_
        refine ro_iload dX6_tryThing_198 rfl ?_
        refine ro_if_eq 210 dX6_tryThing_200 (by decide) (fun b200 => ?_) (fun b200 => ?_)
        · refine ro_iload dX6_tryThing_210 rfl ?_
          refine ro_zret rfl rfl dX6_tryThing_212 ?_
          unfold QT actJ
          rw [if_neg (show ¬ (3 : Nat) = 0 by decide), if_neg (show ¬ (3 : Nat) = 1 by decide), if_neg (show ¬ (3 : Nat) = 2 by decide), if_pos (show (3 : Nat) = 3 from rfl)]
          first
            | (have hcn : canC (ln_n ln) mb d = true := by unfold canC; rw [b175, b183, decide_eq_false b188]; rfl
               rw [if_pos hcn]
               exact ⟨rfl, fun _ => hS207, hq207, ho207, rfl⟩)
            | (rw [if_neg (fun z => by
                 unfold canC at z
                 first
                   | (rw [b175] at z; cases z)
                   | (rw [b175, b183] at z; cases z)
                   | (rw [decide_eq_true b188, Bool.not_true, Bool.and_false, Bool.and_false] at z; cases z))]
               exact ⟨rfl, fun _ => hS, fun _ _ => rfl, OnlyB.rf, rfl⟩)
        · exact absurd b200 (by decide)
      · rw [bI_ne0] at b183
        have b183q := of_decide_eq_true b183
        refine ro_iload_n dX6_tryThing_186 rfl rfl ?_
        refine ro_iload_n dX6_tryThing_187 rfl rfl ?_
        refine ro_icmp_eq 195 dX6_tryThing_188 (by decide) (fun b188 => ?_) (fun b188 => ?_)
        · replace b188 : mb = d := (nI_eq (by omega) (by omega)).mp b188
          refine ro_iconst (v := 0) dX6_tryThing_195 (by decide) ?_
          refine ro_istore6 dX6_tryThing_196 (Nat.le_of_ble_eq_true rfl) rfl ?_
          refine ro_iload dX6_tryThing_198 rfl ?_
          refine ro_if_eq 210 dX6_tryThing_200 (by decide) (fun b200 => ?_) (fun b200 => ?_)
          · refine ro_iload dX6_tryThing_210 rfl ?_
            refine ro_zret rfl rfl dX6_tryThing_212 ?_
            unfold QT actJ
            rw [if_neg (show ¬ (3 : Nat) = 0 by decide), if_neg (show ¬ (3 : Nat) = 1 by decide), if_neg (show ¬ (3 : Nat) = 2 by decide), if_pos (show (3 : Nat) = 3 from rfl)]
            first
              | (have hcn : canC (ln_n ln) mb d = true := by unfold canC; rw [b175, b183, decide_eq_false b188]; rfl
                 rw [if_pos hcn]
                 exact ⟨rfl, fun _ => hS207, hq207, ho207, rfl⟩)
              | (rw [if_neg (fun z => by
                   unfold canC at z
                   first
                     | (rw [b175] at z; cases z)
                     | (rw [b175, b183] at z; cases z)
                     | (rw [decide_eq_true b188, Bool.not_true, Bool.and_false, Bool.and_false] at z; cases z))]
                 exact ⟨rfl, fun _ => hS, fun _ _ => rfl, OnlyB.rf, rfl⟩)
          · exact absurd b200 (by decide)
        · replace b188 : ¬ mb = d := fun z => b188 (by rw [z])
          refine ro_iconst (v := 1) dX6_tryThing_191 (by decide) ?_
          refine ro_goto 196 dX6_tryThing_192 (by decide) ?_
          refine ro_istore6 dX6_tryThing_196 (Nat.le_of_ble_eq_true rfl) rfl ?_
          refine ro_iload dX6_tryThing_198 rfl ?_
          refine ro_if_eq 210 dX6_tryThing_200 (by decide) (fun b200 => ?_) (fun b200 => ?_)
          · exact absurd b200 (by decide)
          · refine ro_aload_n dX6_tryThing_203 rfl rfl ?_
            refine ro_iconst (v := 1) dX6_tryThing_204 (by decide) ?_
            refine ro_iload_n dX6_tryThing_205 rfl rfl ?_
            refine ro_iload_n dX6_tryThing_206 rfl rfl ?_
            refine ro_callV3Q ok_X6_changeOn (cr_changeOn (lv := 1) (by decide) hS a1 b175q b183q) ce_X6 rfl rfl gX6_tryThing_X6_changeOn (Nat.le_of_ble_eq_true rfl) (Nat.le_of_ble_eq_true rfl) dX6_tryThing_207 (fun v207 M207 L207 q207 => ?_)
            obtain ⟨rfl, hS207, hq207, ho207, rfl⟩ := q207
            refine ro_iload dX6_tryThing_210 rfl ?_
            refine ro_zret rfl rfl dX6_tryThing_212 ?_
            unfold QT actJ
            rw [if_neg (show ¬ (3 : Nat) = 0 by decide), if_neg (show ¬ (3 : Nat) = 1 by decide), if_neg (show ¬ (3 : Nat) = 2 by decide), if_pos (show (3 : Nat) = 3 from rfl)]
            first
              | (have hcn : canC (ln_n ln) mb d = true := by unfold canC; rw [b175, b183, decide_eq_false b188]; rfl
                 rw [if_pos hcn]
                 exact ⟨rfl, fun _ => hS207, hq207, ho207, rfl⟩)
              | (rw [if_neg (fun z => by
                   unfold canC at z
                   first
                     | (rw [b175] at z; cases z)
                     | (rw [b175, b183] at z; cases z)
                     | (rw [decide_eq_true b188, Bool.not_true, Bool.and_false, Bool.and_false] at z; cases z))]
                 exact ⟨rfl, fun _ => hS, fun _ _ => rfl, OnlyB.rf, rfl⟩)
  · refine ro_tableIn 213 dX6_tryThing_1 (by decide) (by decide) rfl (by decide) ?_
    refine ro_iload_n dX6_tryThing_213 rfl rfl ?_
    refine ro_if_ne 239 dX6_tryThing_214 (by decide) (fun b214 => ?_) (fun b214 => ?_)
    · replace b214 : ¬ mb = 0 := fun z => b214 (by rw [z]; rfl)
      refine ro_iconst (v := 0) dX6_tryThing_239 (by decide) ?_
      refine ro_istore7 dX6_tryThing_240 (Nat.le_of_ble_eq_true rfl) rfl ?_
      refine ro_iload dX6_tryThing_242 rfl ?_
      refine ro_if_eq 253 dX6_tryThing_244 (by decide) (fun b244 => ?_) (fun b244 => ?_)
      · refine ro_iload dX6_tryThing_253 rfl ?_
        refine ro_zret rfl rfl dX6_tryThing_255 ?_
        unfold QT actJ
        rw [if_neg (show ¬ (4 : Nat) = 0 by decide), if_neg (show ¬ (4 : Nat) = 1 by decide), if_neg (show ¬ (4 : Nat) = 2 by decide), if_neg (show ¬ (4 : Nat) = 3 by decide), if_pos (show (4 : Nat) = 4 from rfl)]
        first
          | (rw [if_pos ⟨b214, b232⟩]
             exact ⟨rfl, fun _ => hS250, hq250, ho250, rfl⟩)
          | (rw [if_neg (fun z => by
               first
                 | exact absurd z.1 b214
                 | (have z2 := of_decide_eq_true z.2; have y := of_decide_eq_false b222; omega)
                 | (have z2 := of_decide_eq_true z.2; have y := of_decide_eq_false b232; omega))]
             exact ⟨rfl, fun _ => hS, fun _ _ => rfl, OnlyB.rf, rfl⟩)
      · exact absurd b244 (by decide)
    · replace b214 : mb = 0 := (nI_eq (b := 0) (by omega) (by decide)).mp b214
      refine ro_aload_n dX6_tryThing_217 rfl rfl ?_
      refine ro_iload_n dX6_tryThing_218 rfl rfl ?_
      refine ro_callV1 ok_X6_isHouse (cr_isHouse hL ok (nI d)) ce_X6 rfl rfl gX6_tryThing_X6_isHouse (Nat.le_of_ble_eq_true rfl) (Nat.le_of_ble_eq_true rfl) dX6_tryThing_219 ?_
      rw [hB_nI (by omega) (by omega)]
      refine ro_if_eq 239 dX6_tryThing_222 (by decide) (fun b222 => ?_) (fun b222 => ?_)
      · rw [bI_eq0] at b222
        refine ro_iconst (v := 0) dX6_tryThing_239 (by decide) ?_
        refine ro_istore7 dX6_tryThing_240 (Nat.le_of_ble_eq_true rfl) rfl ?_
        refine ro_iload dX6_tryThing_242 rfl ?_
        refine ro_if_eq 253 dX6_tryThing_244 (by decide) (fun b244 => ?_) (fun b244 => ?_)
        · refine ro_iload dX6_tryThing_253 rfl ?_
          refine ro_zret rfl rfl dX6_tryThing_255 ?_
          unfold QT actJ
          rw [if_neg (show ¬ (4 : Nat) = 0 by decide), if_neg (show ¬ (4 : Nat) = 1 by decide), if_neg (show ¬ (4 : Nat) = 2 by decide), if_neg (show ¬ (4 : Nat) = 3 by decide), if_pos (show (4 : Nat) = 4 from rfl)]
          first
            | (rw [if_pos ⟨b214, b232⟩]
               exact ⟨rfl, fun _ => hS250, hq250, ho250, rfl⟩)
            | (rw [if_neg (fun z => by
                 first
                   | exact absurd z.1 b214
                   | (have z2 := of_decide_eq_true z.2; have y := of_decide_eq_false b222; omega)
                   | (have z2 := of_decide_eq_true z.2; have y := of_decide_eq_false b232; omega))]
               exact ⟨rfl, fun _ => hS, fun _ _ => rfl, OnlyB.rf, rfl⟩)
        · exact absurd b244 (by decide)
      · rw [bI_ne0] at b222
        have b222q := of_decide_eq_true b222
        refine ro_aload_n dX6_tryThing_225 rfl rfl ?_
        refine ro_iload_n dX6_tryThing_226 rfl rfl ?_
        refine ro_iconst (v := 1) dX6_tryThing_227 (by decide) ?_
        refine ro_iadd dX6_tryThing_228 ?_
        rw [nI_1]
        refine ro_callV1 ok_X6_isHouse (cr_isHouse hL ok (nI (d + 1))) ce_X6 rfl rfl gX6_tryThing_X6_isHouse (Nat.le_of_ble_eq_true rfl) (Nat.le_of_ble_eq_true rfl) dX6_tryThing_229 ?_
        rw [hB_nI (by omega) (by omega)]
        refine ro_if_eq 239 dX6_tryThing_232 (by decide) (fun b232 => ?_) (fun b232 => ?_)
        · rw [bI_eq0] at b232
          refine ro_iconst (v := 0) dX6_tryThing_239 (by decide) ?_
          refine ro_istore7 dX6_tryThing_240 (Nat.le_of_ble_eq_true rfl) rfl ?_
          refine ro_iload dX6_tryThing_242 rfl ?_
          refine ro_if_eq 253 dX6_tryThing_244 (by decide) (fun b244 => ?_) (fun b244 => ?_)
          · refine ro_iload dX6_tryThing_253 rfl ?_
            refine ro_zret rfl rfl dX6_tryThing_255 ?_
            unfold QT actJ
            rw [if_neg (show ¬ (4 : Nat) = 0 by decide), if_neg (show ¬ (4 : Nat) = 1 by decide), if_neg (show ¬ (4 : Nat) = 2 by decide), if_neg (show ¬ (4 : Nat) = 3 by decide), if_pos (show (4 : Nat) = 4 from rfl)]
            first
              | (rw [if_pos ⟨b214, b232⟩]
                 exact ⟨rfl, fun _ => hS250, hq250, ho250, rfl⟩)
              | (rw [if_neg (fun z => by
                   first
                     | exact absurd z.1 b214
                     | (have z2 := of_decide_eq_true z.2; have y := of_decide_eq_false b222; omega)
                     | (have z2 := of_decide_eq_true z.2; have y := of_decide_eq_false b232; omega))]
                 exact ⟨rfl, fun _ => hS, fun _ _ => rfl, OnlyB.rf, rfl⟩)
          · exact absurd b244 (by decide)
        · rw [bI_ne0] at b232
          have b232q := of_decide_eq_true b232
          refine ro_iconst (v := 1) dX6_tryThing_235 (by decide) ?_
          refine ro_goto 240 dX6_tryThing_236 (by decide) ?_
          refine ro_istore7 dX6_tryThing_240 (Nat.le_of_ble_eq_true rfl) rfl ?_
          refine ro_iload dX6_tryThing_242 rfl ?_
          refine ro_if_eq 253 dX6_tryThing_244 (by decide) (fun b244 => ?_) (fun b244 => ?_)
          · exact absurd b244 (by decide)
          · refine ro_aload_n dX6_tryThing_247 rfl rfl ?_
            refine ro_iconst (v := 1) dX6_tryThing_248 (by decide) ?_
            refine ro_iload_n dX6_tryThing_249 rfl rfl ?_
            refine ro_callV2Q ok_X6_plateOn (cr_plateOn (lv := 1) (by decide) hS oc a1 b232q) ce_X6 rfl rfl gX6_tryThing_X6_plateOn (Nat.le_of_ble_eq_true rfl) (Nat.le_of_ble_eq_true rfl) dX6_tryThing_250 (fun v250 M250 L250 q250 => ?_)
            obtain ⟨rfl, hS250, hq250, ho250, rfl⟩ := q250
            refine ro_iload dX6_tryThing_253 rfl ?_
            refine ro_zret rfl rfl dX6_tryThing_255 ?_
            unfold QT actJ
            rw [if_neg (show ¬ (4 : Nat) = 0 by decide), if_neg (show ¬ (4 : Nat) = 1 by decide), if_neg (show ¬ (4 : Nat) = 2 by decide), if_neg (show ¬ (4 : Nat) = 3 by decide), if_pos (show (4 : Nat) = 4 from rfl)]
            first
              | (rw [if_pos ⟨b214, b232⟩]
                 exact ⟨rfl, fun _ => hS250, hq250, ho250, rfl⟩)
              | (rw [if_neg (fun z => by
                   first
                     | exact absurd z.1 b214
                     | (have z2 := of_decide_eq_true z.2; have y := of_decide_eq_false b222; omega)
                     | (have z2 := of_decide_eq_true z.2; have y := of_decide_eq_false b232; omega))]
                 exact ⟨rfl, fun _ => hS, fun _ _ => rfl, OnlyB.rf, rfl⟩)
  · refine ro_tableIn 256 dX6_tryThing_1 (by decide) (by decide) rfl (by decide) ?_
    refine ro_aload_n dX6_tryThing_256 rfl rfl ?_
    refine ro_iload_n dX6_tryThing_257 rfl rfl ?_
    refine ro_callV1 ok_X6_isHouse (cr_isHouse hL ok (nI mb)) ce_X6 rfl rfl gX6_tryThing_X6_isHouse (Nat.le_of_ble_eq_true rfl) (Nat.le_of_ble_eq_true rfl) dX6_tryThing_258 ?_
    rw [hB_nI (by omega) (by omega)]
    refine ro_if_eq 288 dX6_tryThing_261 (by decide) (fun b261 => ?_) (fun b261 => ?_)
    · rw [bI_eq0] at b261
      refine ro_iconst (v := 0) dX6_tryThing_288 (by decide) ?_
      refine ro_zret rfl rfl dX6_tryThing_289 ?_
      unfold QT actJ
      rw [if_neg (show ¬ (5 : Nat) = 0 by decide), if_neg (show ¬ (5 : Nat) = 1 by decide), if_neg (show ¬ (5 : Nat) = 2 by decide), if_neg (show ¬ (5 : Nat) = 3 by decide), if_neg (show ¬ (5 : Nat) = 4 by decide), if_pos (show (5 : Nat) = 5 from rfl)]
      refine ⟨?_, fun _ => hS, fun _ _ => rfl, OnlyB.rf, rfl⟩
      first
        | (rw [b261]; rfl)
        | (rw [b261, b268]; rfl)
        | (rw [b261, b268, b281]; rfl)
    · rw [bI_ne0] at b261
      have b261q := of_decide_eq_true b261
      refine ro_iload_n dX6_tryThing_264 rfl rfl ?_
      refine ro_callS1 ok_X6_isThing (cr_isThing (nI d)) gX6_tryThing_X6_isThing (Nat.le_of_ble_eq_true rfl) (Nat.le_of_ble_eq_true rfl) dX6_tryThing_265 ?_
      rw [hB_nI (by omega) (by omega)]
      refine ro_if_eq 288 dX6_tryThing_268 (by decide) (fun b268 => ?_) (fun b268 => ?_)
      · rw [bI_eq0] at b268
        refine ro_iconst (v := 0) dX6_tryThing_288 (by decide) ?_
        refine ro_zret rfl rfl dX6_tryThing_289 ?_
        unfold QT actJ
        rw [if_neg (show ¬ (5 : Nat) = 0 by decide), if_neg (show ¬ (5 : Nat) = 1 by decide), if_neg (show ¬ (5 : Nat) = 2 by decide), if_neg (show ¬ (5 : Nat) = 3 by decide), if_neg (show ¬ (5 : Nat) = 4 by decide), if_pos (show (5 : Nat) = 5 from rfl)]
        refine ⟨?_, fun _ => hS, fun _ _ => rfl, OnlyB.rf, rfl⟩
        first
          | (rw [b261]; rfl)
          | (rw [b261, b268]; rfl)
          | (rw [b261, b268, b281]; rfl)
      · rw [bI_ne0] at b268
        have b268q := of_decide_eq_true b268
        refine ro_aload_n dX6_tryThing_271 rfl rfl ?_
        refine ro_iconst (v := 1) dX6_tryThing_272 (by decide) ?_
        refine ro_iload_n dX6_tryThing_273 rfl rfl ?_
        refine ro_callV2 ok_X6_knowsAt (cr_knowsAt (lv := 1) (by decide) hS oc.1 a1 b261q) ce_X6 rfl rfl gX6_tryThing_X6_knowsAt (Nat.le_of_ble_eq_true rfl) (Nat.le_of_ble_eq_true rfl) dX6_tryThing_274 ?_
        refine ro_iload_n dX6_tryThing_277 rfl rfl ?_
        refine ro_callS2 ok_X6_has (cr_has (by have := oc.2.2.1 mb; omega) (by omega)) gX6_tryThing_X6_has (Nat.le_of_ble_eq_true rfl) (Nat.le_of_ble_eq_true rfl) dX6_tryThing_278 ?_
        refine ro_if_eq 288 dX6_tryThing_281 (by decide) (fun b281 => ?_) (fun b281 => ?_)
        · rw [bI_eq0] at b281
          refine ro_iconst (v := 0) dX6_tryThing_288 (by decide) ?_
          refine ro_zret rfl rfl dX6_tryThing_289 ?_
          unfold QT actJ
          rw [if_neg (show ¬ (5 : Nat) = 0 by decide), if_neg (show ¬ (5 : Nat) = 1 by decide), if_neg (show ¬ (5 : Nat) = 2 by decide), if_neg (show ¬ (5 : Nat) = 3 by decide), if_neg (show ¬ (5 : Nat) = 4 by decide), if_pos (show (5 : Nat) = 5 from rfl)]
          refine ⟨?_, fun _ => hS, fun _ _ => rfl, OnlyB.rf, rfl⟩
          first
            | (rw [b261]; rfl)
            | (rw [b261, b268]; rfl)
            | (rw [b261, b268, b281]; rfl)
        · rw [bI_ne0] at b281
          refine ro_iconst (v := 1) dX6_tryThing_284 (by decide) ?_
          refine ro_goto 289 dX6_tryThing_285 (by decide) ?_
          refine ro_zret rfl rfl dX6_tryThing_289 ?_
          unfold QT actJ
          rw [if_neg (show ¬ (5 : Nat) = 0 by decide), if_neg (show ¬ (5 : Nat) = 1 by decide), if_neg (show ¬ (5 : Nat) = 2 by decide), if_neg (show ¬ (5 : Nat) = 3 by decide), if_neg (show ¬ (5 : Nat) = 4 by decide), if_pos (show (5 : Nat) = 5 from rfl)]
          refine ⟨?_, fun _ => hS, fun _ _ => rfl, OnlyB.rf, rfl⟩
          first
            | (rw [b261]; rfl)
            | (rw [b261, b268]; rfl)
            | (rw [b261, b268, b281]; rfl)
  · refine ro_tableIn 290 dX6_tryThing_1 (by decide) (by decide) rfl (by decide) ?_
    refine ro_iload_n dX6_tryThing_290 rfl rfl ?_
    refine ro_if_ne 309 dX6_tryThing_291 (by decide) (fun b291 => ?_) (fun b291 => ?_)
    · replace b291 : ¬ mb = 0 := fun z => b291 (by rw [z]; rfl)
      refine ro_iconst (v := 0) dX6_tryThing_309 (by decide) ?_
      refine ro_zret rfl rfl dX6_tryThing_310 ?_
      unfold QT actJ
      rw [if_neg (show ¬ (6 : Nat) = 0 by decide), if_neg (show ¬ (6 : Nat) = 1 by decide), if_neg (show ¬ (6 : Nat) = 2 by decide), if_neg (show ¬ (6 : Nat) = 3 by decide), if_neg (show ¬ (6 : Nat) = 4 by decide), if_neg (show ¬ (6 : Nat) = 5 by decide), if_pos (show (6 : Nat) = 6 from rfl)]
      refine ⟨?_, fun _ => hS, fun _ _ => rfl, OnlyB.rf, rfl⟩
      first
        | (rw [decide_eq_false b291]; rfl)
        | (rw [decide_eq_true b291, decide_eq_false (by omega)]; rfl)
        | (rw [decide_eq_true b291, decide_eq_true (by omega)]; rfl)
    · replace b291 : mb = 0 := (nI_eq (b := 0) (by omega) (by decide)).mp b291
      refine ro_aload_n dX6_tryThing_294 rfl rfl ?_
      refine gf_X6_now  in_X6_tryThing_X6 lk_X6_tryThing_22 dX6_tryThing_295 ?_
      refine ro_bipush (v := 33) dX6_tryThing_298 (by decide) ?_
      refine ro_ai ar_107 (k := 33) (by decide) (by decide) dX6_tryThing_300 ?_
      rw [show M 107 33 = nI (sc_dry c) from hS.2.2.2.2]
      refine ro_iload_n dX6_tryThing_301 rfl rfl ?_
      refine ro_icmp_lt 309 dX6_tryThing_302 (by decide) (fun b302 => ?_) (fun b302 => ?_)
      · rw [nI_ltI (by have := oc.2.2.2.2.1; omega) (by omega)] at b302
        refine ro_iconst (v := 0) dX6_tryThing_309 (by decide) ?_
        refine ro_zret rfl rfl dX6_tryThing_310 ?_
        unfold QT actJ
        rw [if_neg (show ¬ (6 : Nat) = 0 by decide), if_neg (show ¬ (6 : Nat) = 1 by decide), if_neg (show ¬ (6 : Nat) = 2 by decide), if_neg (show ¬ (6 : Nat) = 3 by decide), if_neg (show ¬ (6 : Nat) = 4 by decide), if_neg (show ¬ (6 : Nat) = 5 by decide), if_pos (show (6 : Nat) = 6 from rfl)]
        refine ⟨?_, fun _ => hS, fun _ _ => rfl, OnlyB.rf, rfl⟩
        first
          | (rw [decide_eq_false b291]; rfl)
          | (rw [decide_eq_true b291, decide_eq_false (by omega)]; rfl)
          | (rw [decide_eq_true b291, decide_eq_true (by omega)]; rfl)
      · rw [nI_ltI (by have := oc.2.2.2.2.1; omega) (by omega)] at b302
        refine ro_iconst (v := 1) dX6_tryThing_305 (by decide) ?_
        refine ro_goto 310 dX6_tryThing_306 (by decide) ?_
        refine ro_zret rfl rfl dX6_tryThing_310 ?_
        unfold QT actJ
        rw [if_neg (show ¬ (6 : Nat) = 0 by decide), if_neg (show ¬ (6 : Nat) = 1 by decide), if_neg (show ¬ (6 : Nat) = 2 by decide), if_neg (show ¬ (6 : Nat) = 3 by decide), if_neg (show ¬ (6 : Nat) = 4 by decide), if_neg (show ¬ (6 : Nat) = 5 by decide), if_pos (show (6 : Nat) = 6 from rfl)]
        refine ⟨?_, fun _ => hS, fun _ _ => rfl, OnlyB.rf, rfl⟩
        first
          | (rw [decide_eq_false b291]; rfl)
          | (rw [decide_eq_true b291, decide_eq_false (by omega)]; rfl)
          | (rw [decide_eq_true b291, decide_eq_true (by omega)]; rfl)
theorem lr_thousand {g : GT} {M : MM} {L : LL} {n : Nat} (hn : n ≤ 4) : ∀ (f i : Nat), i + f = n → JW g mX6_thousandTo 0 (Rt (some (.long (lN (1000 ^ n)))) M L) M L 4 [some (.int (nI n)), some (.long (lN (1000 ^ i))), none, some (.int (nI i))] [] := by
  intro f
  induction f with
  | zero =>
    intro i hi
    refine ro_iload_n dX6_thousandTo_4 rfl rfl ?_
    refine ro_iload_n dX6_thousandTo_5 rfl rfl ?_
    refine ro_icmp_ge 21 dX6_thousandTo_6 (by decide) (fun b6 => ?_) (fun b6 => ?_)
    · refine ro_lload_n dX6_thousandTo_21 rfl rfl ?_
      refine ro_lret rfl dX6_thousandTo_22 ?_
      exact ⟨by rw [show i = n by omega], rfl, rfl⟩
    · exact absurd (nI_le (by omega) (by omega)) b6
  | succ f ih =>
    intro i hi
    refine ro_iload_n dX6_thousandTo_4 rfl rfl ?_
    refine ro_iload_n dX6_thousandTo_5 rfl rfl ?_
    refine ro_icmp_ge 21 dX6_thousandTo_6 (by decide) (fun b6 => ?_) (fun b6 => ?_)
    · exact absurd b6 (nI_ge (by omega) (by omega))
    · refine ro_lload_n dX6_thousandTo_9 rfl rfl ?_
      refine ro_ldc2 dX6_thousandTo_10 lk_X6_thousandTo_185 ?_
      refine ro_lmul dX6_thousandTo_13 ?_
      rw [show (1000 : Int64) = lN 1000 from rfl, lN_mul, ← Nat.pow_succ]
      refine ro_lstore_n1 dX6_thousandTo_14 (Nat.le_of_ble_eq_true rfl) rfl ?_
      refine ro_iincP3 dX6_thousandTo_15 (Nat.le_of_ble_eq_true rfl) rfl ?_
      refine ro_goto 4 dX6_thousandTo_18 (by decide) ?_
      rw [nI_1]
      exact ih (i + 1) (by omega)
theorem cr_thousand {g : GT} {M : MM} {L : LL} {n : Nat} (hn : n ≤ 4) : CT g mX6_thousandTo 0 [.int (nI n)] M L (some (.long (lN (1000 ^ n)))) M L := by
  refine ct_of ok_X6_thousandTo (lv := [some (.int (nI n)), none, none, none]) rfl (Nat.le_of_ble_eq_true rfl) ?_
  refine ro_lconst (v := 1) dX6_thousandTo_0 (by decide) ?_
  refine ro_lstore_n1 dX6_thousandTo_1 (Nat.le_of_ble_eq_true rfl) rfl ?_
  refine ro_iconst (v := 0) dX6_thousandTo_2 (by decide) ?_
  refine ro_istore_n3 dX6_thousandTo_3 (Nat.le_of_ble_eq_true rfl) rfl ?_
  exact lr_thousand hn n 0 (by omega)
theorem th_b {m : Nat} (h : m ≤ 4) : 0 < 1000 ^ m ∧ 1000 ^ m < 2 ^ 62 := ⟨Nat.pow_pos (by decide), Nat.lt_of_le_of_lt (Nat.pow_le_pow_right (by decide) h) (by decide)⟩
theorem dg3 {n R i : Nat} (hi : i < n) : R / 1000 ^ (n - 1 - i) % 1000 / 100 = dgF n R (3 * i) ∧ R / 1000 ^ (n - 1 - i) % 1000 / 10 % 10 = dgF n R (3 * i + 1) ∧ R / 1000 ^ (n - 1 - i) % 1000 % 10 = dgF n R (3 * i + 2) := by
  unfold dgF
  rw [show 3 * n - 1 - 3 * i = 3 * (n - 1 - i) + 2 by omega, show 3 * n - 1 - (3 * i + 1) = 3 * (n - 1 - i) + 1 by omega, show 3 * n - 1 - (3 * i + 2) = 3 * (n - 1 - i) by omega, Nat.pow_add, Nat.pow_add, Nat.pow_mul, ← Nat.div_div_eq_div_mul, ← Nat.div_div_eq_div_mul]
  generalize R / (10 ^ 3) ^ (n - 1 - i) = X
  omega
theorem lr_judge {g : GT} {L : LL} {ln : LN} {b n R : Nat} {c0 : SC} {M0 : MM} (ok : LnOK ln) (hn : n ≤ 4) (hR : R < 2 ^ 63) (hb : b < 2 ^ 28) : ∀ (f i : Nat), i + f = n → ∀ (M : MM) (c : SC) (x5 : Option Value), RLn M ln → ScR (M 107) (17 * 1) (ln_n ln) c → ScOK (ln_n ln) (b + i) c → RScr M0 M → jdgF ln (dgF n R) n 0 c0 = jdgF ln (dgF n R) f i c → JW g mX6_judge 5 (fun v M' L' => v = some (.int (jdgF ln (dgF n R) n 0 c0)) ∧ RScr M0 M' ∧ L' = L) M L 36 [some (.ref (dq_A g 102)), some (.int (nI n)), some (.long (lN R)), none, some (.int (nI i)), x5] [] := by
  have h10 : ∀ p, dgF n R p < 10 := fun p => Nat.mod_lt _ (by decide)
  intro f
  induction f with
  | zero =>
    intro i hi M c x5 hL hS oc ho hf
    refine ro_iload dX6_judge_36 rfl ?_
    refine ro_iload_n dX6_judge_38 rfl rfl ?_
    refine ro_icmp_ge 94 dX6_judge_39 (by decide) (fun b39 => ?_) (fun b39 => ?_)
    · refine ro_bipush (v := -9) dX6_judge_94 (by decide) ?_
      refine ro_iret rfl dX6_judge_96 ?_
      exact ⟨by rw [hf]; rfl, ho, rfl⟩
    · exact absurd (nI_le (by omega) (by omega)) b39
  | succ f ih =>
    intro i hi M c x5 hL hS oc ho hf
    have hth := th_b (m := n - 1 - i) (by omega)
    have hdg := dg3 (n := n) (R := R) (i := i) (by omega)
    have hT : (R / 1000 ^ (n - 1 - i) % 1000) < 1000 := Nat.mod_lt _ (by decide)
    have hT2 := Nat.div_le_self R (1000 ^ (n - 1 - i))
    refine ro_iload dX6_judge_36 rfl ?_
    refine ro_iload_n dX6_judge_38 rfl rfl ?_
    refine ro_icmp_ge 94 dX6_judge_39 (by decide) (fun b39 => ?_) (fun b39 => ?_)
    · exact absurd b39 (nI_ge (by omega) (by omega))
    · refine ro_lload_n dX6_judge_42 rfl rfl ?_
      refine ro_iload_n dX6_judge_43 rfl rfl ?_
      refine ro_iconst (v := 1) dX6_judge_44 (by decide) ?_
      refine ro_isub dX6_judge_45 ?_
      refine ro_iload dX6_judge_46 rfl ?_
      refine ro_isub dX6_judge_48 ?_
      refine ro_top (show _ = nI (n - 1 - i) from by rw [show (1 : Int32) = nI 1 from rfl, pk_sub (by omega), pk_sub (by omega)]) ?_
      refine ro_callS1 ok_X6_thousandTo (cr_thousand (n := n - 1 - i) (by omega)) gX6_judge_X6_thousandTo (Nat.le_of_ble_eq_true rfl) (Nat.le_of_ble_eq_true rfl) dX6_judge_49 ?_
      refine ro_ldiv dX6_judge_52 (fun z => by rw [show (0 : Int64) = lN 0 from rfl, pk_lEQ (by omega) (by decide)] at z; omega) ?_
      rw [pk_lDiv hR hth.1 (by omega)]
      refine ro_ldc2 dX6_judge_53 lk_X6_judge_185 ?_
      refine ro_lrem dX6_judge_56 (by decide) ?_
      rw [show (1000 : Int64) = lN 1000 from rfl, pk_lRem (by omega) (by decide) (by decide)]
      refine ro_l2i dX6_judge_57 ?_
      rw [lN_i]
      refine ro_istore5 dX6_judge_58 (Nat.le_of_ble_eq_true rfl) rfl ?_
      refine ro_aload_n dX6_judge_60 rfl rfl ?_
      refine ro_iload dX6_judge_61 rfl ?_
      refine ro_bipush (v := 100) dX6_judge_63 (by decide) ?_
      refine ro_idiv dX6_judge_65 (by decide) ?_
      refine ro_top (show _ = nI (dgF n R (3 * i)) from by rw [show (100 : Int32) = nI 100 from rfl, pk_div (by omega) (by decide) (by decide), hdg.1]) ?_
      refine ro_iload dX6_judge_66 rfl ?_
      refine ro_bipush (v := 10) dX6_judge_68 (by decide) ?_
      refine ro_idiv dX6_judge_70 (by decide) ?_
      refine ro_bipush (v := 10) dX6_judge_71 (by decide) ?_
      refine ro_irem dX6_judge_73 (by decide) ?_
      refine ro_top (show _ = nI (dgF n R (3 * i + 1)) from by rw [show (10 : Int32) = nI 10 from rfl, pk_div (by omega) (by decide) (by decide), pk_rem (by omega) (by decide) (by decide), hdg.2.1]) ?_
      refine ro_iload dX6_judge_74 rfl ?_
      refine ro_bipush (v := 10) dX6_judge_76 (by decide) ?_
      refine ro_irem dX6_judge_78 (by decide) ?_
      refine ro_top (show _ = nI (dgF n R (3 * i + 2)) from by rw [show (10 : Int32) = nI 10 from rfl, pk_rem (by omega) (by decide) (by decide), hdg.2.2]) ?_
      refine ro_callV3Q ok_X6_tryThing (cr_try hL ok hS oc (by omega) (h10 _) (h10 _) (h10 _)) ce_X6 rfl rfl gX6_judge_X6_tryThing (Nat.le_of_ble_eq_true rfl) (Nat.le_of_ble_eq_true rfl) dX6_judge_79 (fun v79 M79 L79 q79 => ?_)
      obtain ⟨rfl, hS79, hq79, ho79, rfl⟩ := q79
      refine ro_if_ne 88 dX6_judge_82 (by decide) (fun b82 => ?_) (fun b82 => ?_)
      · rw [bI_ne0] at b82
        refine ro_iincP4 dX6_judge_88 (Nat.le_of_ble_eq_true rfl) rfl ?_
        refine ro_goto 36 dX6_judge_91 (by decide) ?_
        rw [nI_1]
        exact ih (i + 1) (by omega) M79 _ _ (hL.k7 ho79) (hS79 (Or.inr b82)) (actJ_ok ok oc) (ho.tr (RScr.lv1 ho79 hq79)) (by rw [hf, jdgF, if_pos b82])
      · rw [bI_eq0] at b82
        refine ro_iload dX6_judge_85 rfl ?_
        refine ro_iret rfl dX6_judge_87 ?_
        exact ⟨by rw [hf, jdgF, if_neg (by rw [b82]; decide)], ho.tr (RScr.lv1 ho79 hq79), rfl⟩
theorem cr_judge {g : GT} {M : MM} {L : LL} {S : ST} {b : Nat} {x : Int32} {z : Int64} (h : RR M L S) (ok : StOK b S) : CTQ g mX6_judge 5 [.ref (dq_A g 102), .int x, .long z] M L (QR M L (sp_judge S x z)) := by
  have hL := h.1
  have hS : ScR (M 107) (17 * 0) (ln_n (st_l S)) (st_c S) := h.2.1
  have hA := h.2.2.2.2.1
  have okl := ok.2.2.1
  have oc := ok.2.2.2.1
  have a1 := okl.1
  have hb := ok.2.2.2.2.2.2.2
  have h64 := ok.1
  refine ct_of ok_X6_judge (lv := [some (.ref (dq_A g 102)), some (.int x), some (.long z), none, none, none]) rfl (Nat.le_of_ble_eq_true rfl) ?_
  refine ro_iload_n dX6_judge_0 rfl rfl ?_
  refine ro_i2l dX6_judge_1 ?_
  refine ro_lconst (v := 1) dX6_judge_2 (by decide) ?_
  refine ro_ldc2 dX6_judge_3 lk_X6_judge_187 ?_
  refine ro_callS3 ok_X6_in (cr_in _ _ _) gX6_judge_X6_in (Nat.le_of_ble_eq_true rfl) (Nat.le_of_ble_eq_true rfl) dX6_judge_6 ?_
  rw [in_r (a := 1) (b := 4) rfl rfl]
  refine ro_if_eq 26 dX6_judge_9 (by decide) (fun b9 => ?_) (fun b9 => ?_)
  · rw [bI_eq0, decide_eq_false_iff_not] at b9
    refine ro_bipush (v := -2) dX6_judge_26 (by decide) ?_
    refine ro_iret rfl dX6_judge_28 ?_
    refine ⟨?_, h, RScr.rf.all, rfl⟩
    show _ = some (Value.int (sp_judge S _ _).1)
    unfold sp_judge
    rw [if_neg (by
      first
        | exact (fun q => b9 ⟨q.1, q.2.1⟩)
        | exact (fun q => b23 (by
            obtain ⟨R, hR, rfl⟩ := pk_lOf q.2.2.1
            have q4 := q.2.2.2
            rw [kz_lN hR, kx_nI (by omega), Nat.pow_mul] at q4
            refine ⟨q.2.2.1, ?_⟩
            rw [pk_lLT (by omega) hR]
            show ¬ 1000 ^ n - 1 < R
            have : R < 1000 ^ n := q4
            omega)))]
  · rw [bI_ne0, decide_eq_true_eq] at b9
    obtain ⟨n, hn1, hn, rfl⟩ := in_rs (lo := 1) (hi := 4) (by decide) (by decide) b9.1 b9.2
    have hth := th_b hn
    refine ro_lload_n dX6_judge_12 rfl rfl ?_
    refine ro_lconst (v := 0) dX6_judge_13 (by decide) ?_
    refine ro_iload_n dX6_judge_14 rfl rfl ?_
    refine ro_callS1 ok_X6_thousandTo (cr_thousand hn) gX6_judge_X6_thousandTo (Nat.le_of_ble_eq_true rfl) (Nat.le_of_ble_eq_true rfl) dX6_judge_15 ?_
    refine ro_lconst (v := 1) dX6_judge_18 (by decide) ?_
    refine ro_lsub dX6_judge_19 ?_
    rw [show (1 : Int64) = lN 1 from rfl, lN_sub (by omega)]
    refine ro_callS3 ok_X6_in (cr_in _ _ _) gX6_judge_X6_in (Nat.le_of_ble_eq_true rfl) (Nat.le_of_ble_eq_true rfl) dX6_judge_20 ?_
    refine ro_if_ne 29 dX6_judge_23 (by decide) (fun b23 => ?_) (fun b23 => ?_)
    · rw [bI_ne0, inB, decide_eq_true_eq] at b23
      obtain ⟨R, hR, rfl⟩ := pk_lOf b23.1
      rw [pk_lLT (by omega) hR] at b23
      refine ro_aload_n dX6_judge_29 rfl rfl ?_
      refine ro_callV0Q ok_X6_layTrial (cr_lay0) ce_X6 rfl rfl gX6_judge_X6_layTrial (Nat.le_of_ble_eq_true rfl) (Nat.le_of_ble_eq_true rfl) dX6_judge_30 (fun v30 M30 L30 q30 => ?_)
      obtain ⟨rfl, hr30, hq30, ho30, rfl⟩ := q30
      have hS30 : ScR (M30 107) (17 * 1) (ln_n (st_l S)) (st_c S) := hS.cong (fun k hk => by rw [show 17 * 1 + k = 17 + k from rfl, hr30 k hk, show 17 * 0 + k = k by omega])
      have hL30 := hL.k7 ho30
      have hx30 : RScr M M30 := RScr.lv1 ho30 (fun q z => hq30 q (by omega))
      refine ro_iconst (v := 0) dX6_judge_33 (by decide) ?_
      refine ro_istore4 dX6_judge_34 (Nat.le_of_ble_eq_true rfl) rfl ?_
      refine JW.mono ?_ (lr_judge (n := n) (R := R) okl hn hR (by omega) n 0 (by omega) M30 (st_c S) none hL30 hS30 oc hx30 rfl)
      rintro v M' L' ⟨rfl, ho, rfl⟩
      refine ⟨?_, h.scr ho rfl, ho.all, rfl⟩
      show _ = some (Value.int (sp_judge S (nI n) (lN R)).1)
      unfold sp_judge
      have hR3 : R < 10 ^ (3 * n) := by
        rw [Nat.pow_mul]
        have : ¬ 1000 ^ n - 1 < R := b23.2
        show R < 1000 ^ n
        omega
      rw [kz_lN hR, kx_nI (by omega), if_pos ⟨b9.1, b9.2, b23.1, hR3⟩]
    · rw [bI_eq0, inB, decide_eq_false_iff_not] at b23
      refine ro_bipush (v := -2) dX6_judge_26 (by decide) ?_
      refine ro_iret rfl dX6_judge_28 ?_
      refine ⟨?_, h, RScr.rf.all, rfl⟩
      show _ = some (Value.int (sp_judge S _ _).1)
      unfold sp_judge
      rw [if_neg (by
        first
          | exact (fun q => b9 ⟨q.1, q.2.1⟩)
          | exact (fun q => b23 (by
              obtain ⟨R, hR, rfl⟩ := pk_lOf q.2.2.1
              have q4 := q.2.2.2
              rw [kz_lN hR, kx_nI (by omega), Nat.pow_mul] at q4
              refine ⟨q.2.2.1, ?_⟩
              rw [pk_lLT (by omega) hR]
              show ¬ 1000 ^ n - 1 < R
              have : R < 1000 ^ n := q4
              omega)))]
theorem lr_together {g : GT} {M : MM} {L : LL} {ln : LN} {gk : Nat → Nat} (hL : RLn M ln) (ok : LnOK ln) (h2 : ∀ k, k < 5 → M 107 (17 * 1 + 5 + k) = nI (gk k) ∧ gk k < 64) : ∀ (f i : Nat), i + f = ln_n ln → JW g mX6_knownTogether 1 (Rt (some (.int (nI (smB (fun k => pop (gk k)) (ln_n ln))))) M L) M L 4 [some (.ref (dq_A g 102)), some (.int (nI (smB (fun k => pop (gk k)) i))), some (.int (nI i))] [] := by
  have a1 := ok.1
  intro f
  induction f with
  | zero =>
    intro i hi
    refine ro_iload_n dX6_knownTogether_4 rfl rfl ?_
    refine ro_aload_n dX6_knownTogether_5 rfl rfl ?_
    refine gf_X6_houses  in_X6_knownTogether_X6 lk_X6_knownTogether_93 dX6_knownTogether_6 ?_
    rw [hL.1]
    refine ro_icmp_ge 33 dX6_knownTogether_9 (by decide) (fun b9 => ?_) (fun b9 => ?_)
    · refine ro_iload_n dX6_knownTogether_33 rfl rfl ?_
      refine ro_iret rfl dX6_knownTogether_34 ?_
      exact ⟨by rw [show i = ln_n ln by omega], rfl, rfl⟩
    · exact absurd (nI_le (by omega) (by omega)) b9
  | succ f ih =>
    intro i hi
    refine ro_iload_n dX6_knownTogether_4 rfl rfl ?_
    refine ro_aload_n dX6_knownTogether_5 rfl rfl ?_
    refine gf_X6_houses  in_X6_knownTogether_X6 lk_X6_knownTogether_93 dX6_knownTogether_6 ?_
    rw [hL.1]
    refine ro_icmp_ge 33 dX6_knownTogether_9 (by decide) (fun b9 => ?_) (fun b9 => ?_)
    · exact absurd b9 (nI_ge (by omega) (by omega))
    · refine ro_iload_n dX6_knownTogether_12 rfl rfl ?_
      refine ro_aload_n dX6_knownTogether_13 rfl rfl ?_
      refine gf_X6_now  in_X6_knownTogether_X6 lk_X6_knownTogether_22 dX6_knownTogether_14 ?_
      refine ro_bipush (v := 22) dX6_knownTogether_17 (by decide) ?_
      refine ro_iload_n dX6_knownTogether_19 rfl rfl ?_
      refine ro_iadd dX6_knownTogether_20 ?_
      refine ro_top (show _ = nI (22 + i) from nI_add (22) (i)) ?_
      refine ro_ai ar_107 rfl (by omega) dX6_knownTogether_21 ?_
      rw [show M 107 (22 + i) = nI (gk i) from (h2 i (by omega)).1]
      refine ro_callS1 ok_X6_ones (cr_ones (by have := (h2 i (by omega)).2; omega)) gX6_knownTogether_X6_ones (Nat.le_of_ble_eq_true rfl) (Nat.le_of_ble_eq_true rfl) dX6_knownTogether_22 ?_
      refine ro_iadd dX6_knownTogether_25 ?_
      rw [nI_add]
      refine ro_istore_n1 dX6_knownTogether_26 (Nat.le_of_ble_eq_true rfl) rfl ?_
      refine ro_iincP2 dX6_knownTogether_27 (Nat.le_of_ble_eq_true rfl) rfl ?_
      refine ro_goto 4 dX6_knownTogether_30 (by decide) ?_
      rw [nI_1]
      exact ih (i + 1) (by omega)
theorem cr_together {g : GT} {M : MM} {L : LL} {ln : LN} {b : Nat} {c : SC} (hL : RLn M ln) (ok : LnOK ln) (hS : ScR (M 107) (17 * 1) (ln_n ln) c) (oc : ScOK (ln_n ln) b c) : CT g mX6_knownTogether 1 [.ref (dq_A g 102)] M L (some (.int (nI (knAll (ln_n ln) c)))) M L := by
  obtain ⟨h1, ⟨gk, h2, h3⟩, h4, h5, h6⟩ := hS
  rw [show knAll (ln_n ln) c = smB (fun k => pop (gk k)) (ln_n ln) from by rw [smB_perm oc]; exact smB_cong (fun k hk => by rw [h3 k hk])]
  refine ct_of ok_X6_knownTogether (lv := [some (.ref (dq_A g 102)), none, none]) rfl (Nat.le_of_ble_eq_true rfl) ?_
  refine ro_iconst (v := 0) dX6_knownTogether_0 (by decide) ?_
  refine ro_istore_n1 dX6_knownTogether_1 (Nat.le_of_ble_eq_true rfl) rfl ?_
  refine ro_iconst (v := 0) dX6_knownTogether_2 (by decide) ?_
  refine ro_istore_n2 dX6_knownTogether_3 (Nat.le_of_ble_eq_true rfl) rfl ?_
  exact lr_together hL ok h2 (ln_n ln) 0 (by omega)
theorem lot_L {l : LN} {c : SC} {v : Nat} (h : v < 5) : lotC l c v = (actJ l c 1 0 (v % 5)).2 := by
  rw [Nat.mod_eq_of_lt h]
  unfold lotC actJ
  rw [if_pos h, if_neg (show ¬ (1 : Nat) = 0 by decide), if_pos (show (1 : Nat) = 1 from rfl)]
  by_cases z : canL (ln_n l) c v = true
  · rw [if_pos z, if_pos ⟨rfl, z⟩]
  · rw [if_neg z, if_neg (fun q => z q.2)]
theorem lot_R {l : LN} {c : SC} {v : Nat} (h0 : ¬ v < 5) (h : v < 10) : lotC l c v = (actJ l c 2 0 (v % 5)).2 := by
  rw [show v % 5 = v - 5 by omega]
  unfold lotC actJ
  rw [if_neg h0, if_pos h, if_neg (show ¬ (2 : Nat) = 0 by decide), if_neg (show ¬ (2 : Nat) = 1 by decide), if_pos (show (2 : Nat) = 2 from rfl)]
  by_cases z : canR (ln_n l) c (v - 5) = true
  · rw [if_pos z, if_pos ⟨rfl, z⟩]
  · rw [if_neg z, if_neg (fun q => z q.2)]
theorem lot_C {l : LN} {c : SC} {v : Nat} (h0 : ¬ v < 10) (h : v < 14) : lotC l c v = (actJ l c 3 (v - 10) (v - 9)).2 := by
  unfold lotC actJ
  rw [if_neg (show ¬ v < 5 by omega), if_neg h0, if_pos h, if_neg (show ¬ (3 : Nat) = 0 by decide), if_neg (show ¬ (3 : Nat) = 1 by decide), if_neg (show ¬ (3 : Nat) = 2 by decide), if_pos (show (3 : Nat) = 3 from rfl)]
  by_cases z : canC (ln_n l) (v - 10) (v - 9) = true
  · rw [if_pos z, if_pos z]
  · rw [if_neg z, if_neg z]
theorem lot_P {l : LN} {c : SC} {v : Nat} (h0 : ¬ v < 14) (h : v < 18) : lotC l c v = (actJ l c 4 0 (v - 14)).2 := by
  unfold lotC actJ
  rw [if_neg (show ¬ v < 5 by omega), if_neg (show ¬ v < 10 by omega), if_neg h0, if_pos h, if_neg (show ¬ (4 : Nat) = 0 by decide), if_neg (show ¬ (4 : Nat) = 1 by decide), if_neg (show ¬ (4 : Nat) = 2 by decide), if_neg (show ¬ (4 : Nat) = 3 by decide), if_pos (show (4 : Nat) = 4 from rfl)]
  by_cases z : canP (ln_n l) (v - 14) = true
  · rw [if_pos z, if_pos ⟨rfl, z⟩]
  · rw [if_neg z, if_neg (fun q => z q.2)]
theorem lot_N {l : LN} {c : SC} {v : Nat} (h0 : ¬ v < 18) : lotC l c v = nextC l c := by
  unfold lotC
  rw [if_neg (by omega), if_neg (by omega), if_neg (by omega), if_neg h0]
theorem lr_years {g : GT} {ln : LN} {b n : Nat} {c0 : SC} {z0 : Int64} {M0 : MM} {L0 : LL} (ok : LnOK ln) (oc : ScOK (ln_n ln) b c0) (hn : n ≤ 30) (hb : b < 2 ^ 28) : ∀ (f i : Nat), i + f = n → ∀ (M : MM) (L : LL) (x4 : Option Value), RLn M ln → ScR (M 107) (17 * 1) (ln_n ln) (yrF ln z0 c0 i).2.1 → RScr M0 M → L 102 = (yrF ln z0 c0 i).1 → L 0 = L0 0 → JW g mX6_years 5 (fun v M' L' => v = some (.int (nI (yrF ln z0 c0 n).2.2)) ∧ RScr M0 M' ∧ L' 102 = (yrF ln z0 c0 n).1 ∧ L' 0 = L0 0) M L 23 [some (.ref (dq_A g 102)), some (.int (nI n)), some (.int (nI (yrF ln z0 c0 i).2.2)), some (.int (nI i)), x4] [] := by
  intro f
  induction f with
  | zero =>
    intro i hi M L x4 hL hS ho hz h102
    refine ro_iload_n dX6_years_23 rfl rfl ?_
    refine ro_iload_n dX6_years_24 rfl rfl ?_
    refine ro_icmp_ge 155 dX6_years_25 (by decide) (fun b25 => ?_) (fun b25 => ?_)
    · refine ro_iload_n dX6_years_155 rfl rfl ?_
      refine ro_iret rfl dX6_years_156 ?_
      have e : i = n := by omega
      subst e
      exact ⟨rfl, ho, hz, h102⟩
    · exact absurd (nI_le (by omega) (by omega)) b25
  | succ f ih =>
    intro i hi M L x4 hL hS ho hz h102
    refine ro_iload_n dX6_years_23 rfl rfl ?_
    refine ro_iload_n dX6_years_24 rfl rfl ?_
    refine ro_icmp_ge 155 dX6_years_25 (by decide) (fun b25 => ?_) (fun b25 => ?_)
    · exact absurd b25 (nI_ge (by omega) (by omega))
    · refine ro_aload_n dX6_years_28 rfl rfl ?_
      refine ro_aload_n dX6_years_29 rfl rfl ?_
      refine gf_X6_seed  in_X6_years_X6 lk_X6_years_218 dX6_years_30 ?_
      rw [hz]
      refine ro_ldc2 dX6_years_33 lk_X6_years_222 ?_
      refine ro_lmul dX6_years_36 ?_
      refine ro_ldc2 dX6_years_37 lk_X6_years_224 ?_
      refine ro_ladd dX6_years_40 ?_
      refine pf_X6_seed  in_X6_years_X6 lk_X6_years_218  dX6_years_41 (fun L41 e41 => ?_)
      refine ro_aload_n dX6_years_44 rfl rfl ?_
      refine gf_X6_seed  in_X6_years_X6 lk_X6_years_218 dX6_years_45 ?_
      rw [show L41 102 = sdN (yrF ln z0 c0 i).1 from by rw [e41, va_up_self]; rfl]
      refine ro_bipush (v := 33) dX6_years_48 (by decide) ?_
      refine ro_lushr dX6_years_50 ?_
      rw [us_33]
      refine ro_ldc2 dX6_years_51 lk_X6_years_226 ?_
      refine ro_lrem dX6_years_54 (by decide) ?_
      rw [show (32 : Int64) = lN 32 from rfl, pk_lRem (by have := (sdN (yrF ln z0 c0 i).1).toUInt64.toNat_lt; omega) (by decide) (by decide)]
      refine ro_l2i dX6_years_55 ?_
      rw [lN_i]
      refine ro_top (show _ = nI (lotN (sdN (yrF ln z0 c0 i).1)) from rfl) ?_
      have hvlt : lotN (sdN (yrF ln z0 c0 i).1) < 32 := Nat.mod_lt _ (by decide)
      have hsc : (yrF ln z0 c0 (i + 1)).2.1 = lotC ln (yrF ln z0 c0 i).2.1 (lotN (sdN (yrF ln z0 c0 i).1)) := rfl
      generalize lotN (sdN (yrF ln z0 c0 i).1) = v at hvlt hsc ⊢
      refine ro_istore4 dX6_years_56 (Nat.le_of_ble_eq_true rfl) rfl ?_
      have hK : ∀ M2 : MM, RLn M2 ln → ScR (M2 107) (17 * 1) (ln_n ln) (yrF ln z0 c0 (i + 1)).2.1 → RScr M0 M2 → JW g mX6_years 5 (fun v M' L' => v = some (.int (nI (yrF ln z0 c0 n).2.2)) ∧ RScr M0 M' ∧ L' 102 = (yrF ln z0 c0 n).1 ∧ L' 0 = L0 0) M2 L41 142 [some (.ref (dq_A g 102)), some (.int (nI n)), some (.int (nI (yrF ln z0 c0 i).2.2)), some (.int (nI i)), some (.int (nI v))] [] := by
        intro M2 hL2 hS2 ho2
        refine ro_iload_n dX6_years_142 rfl rfl ?_
        refine ro_aload_n dX6_years_143 rfl rfl ?_
        refine ro_callV0 ok_X6_knownTogether (cr_together hL2 ok hS2 (yrF_ok (z := z0) ok oc (i + 1))) ce_X6 rfl rfl gX6_years_X6_knownTogether (Nat.le_of_ble_eq_true rfl) (Nat.le_of_ble_eq_true rfl) dX6_years_144 ?_
        refine ro_iadd dX6_years_147 ?_
        refine ro_istore_n2 dX6_years_148 (Nat.le_of_ble_eq_true rfl) rfl ?_
        refine ro_iincP3 dX6_years_149 (Nat.le_of_ble_eq_true rfl) rfl ?_
        refine ro_goto 23 dX6_years_152 (by decide) ?_
        rw [nI_1, nI_add]
        exact ih (i + 1) (by omega) M2 _ _ hL2 hS2 ho2 (by rw [e41, va_up_self]; rfl) (by rw [e41, va_up_ne _ _ (by decide)]; exact h102)
      rw [hsc] at hK
      refine ro_iload dX6_years_58 rfl ?_
      refine ro_bipush (v := 17) dX6_years_60 (by decide) ?_
      refine ro_icmp_le 73 dX6_years_62 (by decide) (fun b62 => ?_) (fun b62 => ?_)
      · replace b62 : v < 18 := by have := (nI_leI (a := v) (b := 17) (by omega) (by decide)).mp b62; omega
        refine ro_iload dX6_years_73 rfl ?_
        refine ro_bipush (v := 13) dX6_years_75 (by decide) ?_
        refine ro_icmp_le 95 dX6_years_77 (by decide) (fun b77 => ?_) (fun b77 => ?_)
        · replace b77 : v < 14 := by have := (nI_leI (a := v) (b := 13) (by omega) (by decide)).mp b77; omega
          refine ro_iload dX6_years_95 rfl ?_
          refine ro_bipush (v := 9) dX6_years_97 (by decide) ?_
          refine ro_icmp_le 121 dX6_years_99 (by decide) (fun b99 => ?_) (fun b99 => ?_)
          · replace b99 : v < 10 := by have := (nI_leI (a := v) (b := 9) (by omega) (by decide)).mp b99; omega
            refine ro_aload_n dX6_years_121 rfl rfl ?_
            refine ro_iload dX6_years_122 rfl ?_
            refine ro_iconst (v := 4) dX6_years_124 (by decide) ?_
            refine ro_icmp_le 132 dX6_years_125 (by decide) (fun b125 => ?_) (fun b125 => ?_)
            · replace b125 : v < 5 := by have := (nI_leI (a := v) (b := 4) (by omega) (by decide)).mp b125; omega
              refine ro_iconst (v := 1) dX6_years_132 (by decide) ?_
              refine ro_iconst (v := 0) dX6_years_133 (by decide) ?_
              refine ro_iload dX6_years_134 rfl ?_
              refine ro_iconst (v := 5) dX6_years_136 (by decide) ?_
              refine ro_irem dX6_years_137 (by decide) ?_
              refine ro_top (show _ = nI (v % 5) from pk_rem (d := 5) (by omega) (by decide) (by decide)) ?_
              refine ro_callV3Q ok_X6_tryThing (cr_try (a := 1) (mb := 0) (d := v % 5) hL ok hS (yrF_ok ok oc i) (by omega) (by decide) (by decide) (by omega)) ce_X6 rfl rfl gX6_years_X6_tryThing (Nat.le_of_ble_eq_true rfl) (Nat.le_of_ble_eq_true rfl) dX6_years_138 (fun v138 M138 L138 q138 => ?_)
              obtain ⟨rfl, hS138, hq138, ho138, rfl⟩ := q138
              replace hS138 := hS138 (Or.inl (by decide))
              refine ro_pop dX6_years_141 rfl ?_
              first
                | exact hK M67 (hL.k7 ho67) (by rw [lot_N b62]; exact hS67) (ho.tr (RScr.lv1 ho67 hq67))
                | exact hK M88 (hL.k7 ho88) (by rw [lot_P b77 b62]; exact hS88) (ho.tr (RScr.lv1 ho88 hq88))
                | exact hK M114 (hL.k7 ho114) (by rw [lot_C b99 b77]; exact hS114) (ho.tr (RScr.lv1 ho114 hq114))
                | exact hK M138 (hL.k7 ho138) (by rw [lot_R b125 b99]; exact hS138) (ho.tr (RScr.lv1 ho138 hq138))
                | exact hK M138 (hL.k7 ho138) (by rw [lot_L b125]; exact hS138) (ho.tr (RScr.lv1 ho138 hq138))
            · replace b125 : ¬ v < 5 := fun z => b125 (nI_le (b := 4) (by omega) (by decide))
              refine ro_iconst (v := 2) dX6_years_128 (by decide) ?_
              refine ro_goto 133 dX6_years_129 (by decide) ?_
              refine ro_iconst (v := 0) dX6_years_133 (by decide) ?_
              refine ro_iload dX6_years_134 rfl ?_
              refine ro_iconst (v := 5) dX6_years_136 (by decide) ?_
              refine ro_irem dX6_years_137 (by decide) ?_
              refine ro_top (show _ = nI (v % 5) from pk_rem (d := 5) (by omega) (by decide) (by decide)) ?_
              refine ro_callV3Q ok_X6_tryThing (cr_try (a := 2) (mb := 0) (d := v % 5) hL ok hS (yrF_ok ok oc i) (by omega) (by decide) (by decide) (by omega)) ce_X6 rfl rfl gX6_years_X6_tryThing (Nat.le_of_ble_eq_true rfl) (Nat.le_of_ble_eq_true rfl) dX6_years_138 (fun v138 M138 L138 q138 => ?_)
              obtain ⟨rfl, hS138, hq138, ho138, rfl⟩ := q138
              replace hS138 := hS138 (Or.inl (by decide))
              refine ro_pop dX6_years_141 rfl ?_
              first
                | exact hK M67 (hL.k7 ho67) (by rw [lot_N b62]; exact hS67) (ho.tr (RScr.lv1 ho67 hq67))
                | exact hK M88 (hL.k7 ho88) (by rw [lot_P b77 b62]; exact hS88) (ho.tr (RScr.lv1 ho88 hq88))
                | exact hK M114 (hL.k7 ho114) (by rw [lot_C b99 b77]; exact hS114) (ho.tr (RScr.lv1 ho114 hq114))
                | exact hK M138 (hL.k7 ho138) (by rw [lot_R b125 b99]; exact hS138) (ho.tr (RScr.lv1 ho138 hq138))
                | exact hK M138 (hL.k7 ho138) (by rw [lot_L b125]; exact hS138) (ho.tr (RScr.lv1 ho138 hq138))
          · replace b99 : ¬ v < 10 := fun z => b99 (nI_le (b := 9) (by omega) (by decide))
            refine ro_aload_n dX6_years_102 rfl rfl ?_
            refine ro_iconst (v := 3) dX6_years_103 (by decide) ?_
            refine ro_iload dX6_years_104 rfl ?_
            refine ro_bipush (v := 10) dX6_years_106 (by decide) ?_
            refine ro_isub dX6_years_108 ?_
            refine ro_top (show _ = nI (v - 10) from pk_sub (b := 10) (by omega)) ?_
            refine ro_iload dX6_years_109 rfl ?_
            refine ro_bipush (v := 9) dX6_years_111 (by decide) ?_
            refine ro_isub dX6_years_113 ?_
            refine ro_top (show _ = nI (v - 9) from pk_sub (b := 9) (by omega)) ?_
            refine ro_callV3Q ok_X6_tryThing (cr_try (a := 3) (mb := v - 10) (d := v - 9) hL ok hS (yrF_ok ok oc i) (by omega) (by decide) (by omega) (by omega)) ce_X6 rfl rfl gX6_years_X6_tryThing (Nat.le_of_ble_eq_true rfl) (Nat.le_of_ble_eq_true rfl) dX6_years_114 (fun v114 M114 L114 q114 => ?_)
            obtain ⟨rfl, hS114, hq114, ho114, rfl⟩ := q114
            replace hS114 := hS114 (Or.inl (by decide))
            refine ro_pop dX6_years_117 rfl ?_
            refine ro_goto 142 dX6_years_118 (by decide) ?_
            first
              | exact hK M67 (hL.k7 ho67) (by rw [lot_N b62]; exact hS67) (ho.tr (RScr.lv1 ho67 hq67))
              | exact hK M88 (hL.k7 ho88) (by rw [lot_P b77 b62]; exact hS88) (ho.tr (RScr.lv1 ho88 hq88))
              | exact hK M114 (hL.k7 ho114) (by rw [lot_C b99 b77]; exact hS114) (ho.tr (RScr.lv1 ho114 hq114))
              | exact hK M138 (hL.k7 ho138) (by rw [lot_R b125 b99]; exact hS138) (ho.tr (RScr.lv1 ho138 hq138))
              | exact hK M138 (hL.k7 ho138) (by rw [lot_L b125]; exact hS138) (ho.tr (RScr.lv1 ho138 hq138))
        · replace b77 : ¬ v < 14 := fun z => b77 (nI_le (b := 13) (by omega) (by decide))
          refine ro_aload_n dX6_years_80 rfl rfl ?_
          refine ro_iconst (v := 4) dX6_years_81 (by decide) ?_
          refine ro_iconst (v := 0) dX6_years_82 (by decide) ?_
          refine ro_iload dX6_years_83 rfl ?_
          refine ro_bipush (v := 14) dX6_years_85 (by decide) ?_
          refine ro_isub dX6_years_87 ?_
          refine ro_top (show _ = nI (v - 14) from pk_sub (b := 14) (by omega)) ?_
          refine ro_callV3Q ok_X6_tryThing (cr_try (a := 4) (mb := 0) (d := v - 14) hL ok hS (yrF_ok ok oc i) (by omega) (by decide) (by decide) (by omega)) ce_X6 rfl rfl gX6_years_X6_tryThing (Nat.le_of_ble_eq_true rfl) (Nat.le_of_ble_eq_true rfl) dX6_years_88 (fun v88 M88 L88 q88 => ?_)
          obtain ⟨rfl, hS88, hq88, ho88, rfl⟩ := q88
          replace hS88 := hS88 (Or.inl (by decide))
          refine ro_pop dX6_years_91 rfl ?_
          refine ro_goto 142 dX6_years_92 (by decide) ?_
          first
            | exact hK M67 (hL.k7 ho67) (by rw [lot_N b62]; exact hS67) (ho.tr (RScr.lv1 ho67 hq67))
            | exact hK M88 (hL.k7 ho88) (by rw [lot_P b77 b62]; exact hS88) (ho.tr (RScr.lv1 ho88 hq88))
            | exact hK M114 (hL.k7 ho114) (by rw [lot_C b99 b77]; exact hS114) (ho.tr (RScr.lv1 ho114 hq114))
            | exact hK M138 (hL.k7 ho138) (by rw [lot_R b125 b99]; exact hS138) (ho.tr (RScr.lv1 ho138 hq138))
            | exact hK M138 (hL.k7 ho138) (by rw [lot_L b125]; exact hS138) (ho.tr (RScr.lv1 ho138 hq138))
      · replace b62 : ¬ v < 18 := fun z => b62 (nI_le (b := 17) (by omega) (by decide))
        refine ro_aload_n dX6_years_65 rfl rfl ?_
        refine ro_iconst (v := 1) dX6_years_66 (by decide) ?_
        refine ro_callV1Q ok_X6_goOn (cr_goOn (n := 1) hL ok hS (yrF_ok ok oc i) (by omega)) ce_X6 rfl rfl gX6_years_X6_goOn (Nat.le_of_ble_eq_true rfl) (Nat.le_of_ble_eq_true rfl) dX6_years_67 (fun v67 M67 L67 q67 => ?_)
        obtain ⟨rfl, hS67, hq67, ho67, rfl⟩ := q67
        refine ro_goto 142 dX6_years_70 (by decide) ?_
        first
          | exact hK M67 (hL.k7 ho67) (by rw [lot_N b62]; exact hS67) (ho.tr (RScr.lv1 ho67 hq67))
          | exact hK M88 (hL.k7 ho88) (by rw [lot_P b77 b62]; exact hS88) (ho.tr (RScr.lv1 ho88 hq88))
          | exact hK M114 (hL.k7 ho114) (by rw [lot_C b99 b77]; exact hS114) (ho.tr (RScr.lv1 ho114 hq114))
          | exact hK M138 (hL.k7 ho138) (by rw [lot_R b125 b99]; exact hS138) (ho.tr (RScr.lv1 ho138 hq138))
          | exact hK M138 (hL.k7 ho138) (by rw [lot_L b125]; exact hS138) (ho.tr (RScr.lv1 ho138 hq138))
theorem cr_years {g : GT} {M : MM} {L : LL} {S : ST} {b : Nat} {x : Int32} (h : RR M L S) (ok : StOK b S) : CTQ g mX6_years 5 [.ref (dq_A g 102), .int x] M L (QR M L (sp_years S x)) := by
  have hL := h.1
  have hS : ScR (M 107) (17 * 0) (ln_n (st_l S)) (st_c S) := h.2.1
  have hA := h.2.2.2.2.1
  have okl := ok.2.2.1
  have oc := ok.2.2.2.1
  have a1 := okl.1
  have hb := ok.2.2.2.2.2.2.2
  have h64 := ok.1
  refine ct_of ok_X6_years (lv := [some (.ref (dq_A g 102)), some (.int x), none, none, none]) rfl (Nat.le_of_ble_eq_true rfl) ?_
  refine ro_iload_n dX6_years_0 rfl rfl ?_
  refine ro_i2l dX6_years_1 ?_
  refine ro_lconst (v := 1) dX6_years_2 (by decide) ?_
  refine ro_ldc2 dX6_years_3 lk_X6_years_160 ?_
  refine ro_callS3 ok_X6_in (cr_in _ _ _) gX6_years_X6_in (Nat.le_of_ble_eq_true rfl) (Nat.le_of_ble_eq_true rfl) dX6_years_6 ?_
  rw [in_r (a := 1) (b := 30) rfl rfl]
  refine ro_if_ne 15 dX6_years_9 (by decide) (fun b9 => ?_) (fun b9 => ?_)
  · rw [bI_ne0, decide_eq_true_eq] at b9
    obtain ⟨n, hn1, hn, rfl⟩ := in_rs (lo := 1) (hi := 30) (by decide) (by decide) b9.1 b9.2
    refine ro_aload_n dX6_years_15 rfl rfl ?_
    refine ro_callV0Q ok_X6_layTrial (cr_lay0) ce_X6 rfl rfl gX6_years_X6_layTrial (Nat.le_of_ble_eq_true rfl) (Nat.le_of_ble_eq_true rfl) dX6_years_16 (fun v16 M16 L16 q16 => ?_)
    obtain ⟨rfl, hr16, hq16, ho16, rfl⟩ := q16
    have hS16 : ScR (M16 107) (17 * 1) (ln_n (st_l S)) (st_c S) := hS.cong (fun k hk => by rw [show 17 * 1 + k = 17 + k from rfl, hr16 k hk, show 17 * 0 + k = k by omega])
    have hL16 := hL.k7 ho16
    have hx16 : RScr M M16 := RScr.lv1 ho16 (fun q z => hq16 q (by omega))
    refine ro_iconst (v := 0) dX6_years_19 (by decide) ?_
    refine ro_istore_n2 dX6_years_20 (Nat.le_of_ble_eq_true rfl) rfl ?_
    refine ro_iconst (v := 0) dX6_years_21 (by decide) ?_
    refine ro_istore_n3 dX6_years_22 (Nat.le_of_ble_eq_true rfl) rfl ?_
    refine JW.mono ?_ (lr_years (z0 := st_s S) (L0 := L16) okl oc hn (by omega) n 0 (by omega) M16 _ none hL16 hS16 hx16 h.2.2.2.2.2.2.2 rfl)
    rintro v M' L' ⟨rfl, ho, hz, h102⟩
    rw [show sp_years S (nI n) = _ from if_neg (fun z => z.elim b9.1 b9.2), kx_nI (by omega)]
    exact ⟨rfl, (h.scr ho rfl).seed hz, ho.all, h102⟩
  · rw [bI_eq0, decide_eq_false_iff_not] at b9
    refine ro_bipush (v := -2) dX6_years_12 (by decide) ?_
    refine ro_iret rfl dX6_years_14 ?_
    rw [show sp_years S x = (-2, S) from if_pos (Classical.byContradiction fun z => b9 ⟨fun y => z (Or.inl y), fun y => z (Or.inr y)⟩)]
    exact ⟨rfl, h, RScr.rf.all, rfl⟩
