abbrev mX2_init : MI := (yX2_init, RX2, cX2_init, 1, none, wsX2_init)
theorem ok_X2_init : MOK mX2_init 0 := ⟨rfl, plainFor_of_name (by decide), ⟨by decide, by decide, by decide +kernel⟩, by decide, rfl⟩
theorem in_X2_init_X2 : ∀ w ∈ u_ws RX2 TX2 9, w ∈ wsX2_init := by decide +kernel
abbrev mX4_init : MI := (yX4_init, RX4, cX4_init, 2, none, wsX4_init)
theorem ok_X4_init : MOK mX4_init 1 := ⟨rfl, plainFor_of_name (by decide), ⟨by decide, by decide, by decide +kernel⟩, by decide, rfl⟩
theorem in_X4_init_X4 : ∀ w ∈ u_ws RX4 TX4 6, w ∈ wsX4_init := by decide +kernel
abbrev mX1_init : MI := (yX1_init, RX1, cX1_init, 1, none, wsX1_init)
theorem ok_X1_init : MOK mX1_init 0 := ⟨rfl, plainFor_of_name (by decide), ⟨by decide, by decide, by decide +kernel⟩, by decide, rfl⟩
theorem in_X1_init_X1 : ∀ w ∈ u_ws RX1 TX1 4, w ∈ wsX1_init := by decide +kernel
abbrev mX6_init : MI := (yX6_init, RX6, cX6_init, 1, none, wsX6_init)
theorem ok_X6_init : MOK mX6_init 0 := ⟨rfl, plainFor_of_name (by decide), ⟨by decide, by decide, by decide +kernel⟩, by decide, rfl⟩
theorem in_X6_init_X6 : ∀ w ∈ u_ws RX6 TX6 28, w ∈ wsX6_init := by decide +kernel
abbrev mX3_init : MI := (yX3_init, RX3, cX3_init, 1, none, wsX3_init)
theorem ok_X3_init : MOK mX3_init 0 := ⟨rfl, plainFor_of_name (by decide), ⟨by decide, by decide, by decide +kernel⟩, by decide, rfl⟩
theorem in_X3_init_X2 : ∀ w ∈ u_ws RX2 TX2 9, w ∈ wsX3_init := by decide +kernel
theorem in_X3_init_X3 : ∀ w ∈ u_ws RX3 TX3 5, w ∈ wsX3_init := by decide +kernel
abbrev mX0_init : MI := (yX0_init, RX0, cX0_init, 3, none, wsX0_init)
theorem ok_X0_init : MOK mX0_init 1 := ⟨rfl, plainFor_of_name (by decide), ⟨by decide, by decide, by decide +kernel⟩, by decide, rfl⟩
theorem in_X0_init_X0 : ∀ w ∈ u_ws RX0 TX0 3, w ∈ wsX0_init := by decide +kernel
theorem in_X0_init_X4 : ∀ w ∈ u_ws RX4 TX4 6, w ∈ wsX0_init := by decide +kernel
abbrev mX5_init : MI := (yX5_init, RX5, cX5_init, 2, none, wsX5_init)
theorem ok_X5_init : MOK mX5_init 0 := ⟨rfl, plainFor_of_name (by decide), ⟨by decide, by decide, by decide +kernel⟩, by decide, rfl⟩
theorem in_X5_init_X0 : ∀ w ∈ u_ws RX0 TX0 3, w ∈ wsX5_init := by decide +kernel
theorem in_X5_init_X1 : ∀ w ∈ u_ws RX1 TX1 4, w ∈ wsX5_init := by decide +kernel
theorem in_X5_init_X2 : ∀ w ∈ u_ws RX2 TX2 9, w ∈ wsX5_init := by decide +kernel
theorem in_X5_init_X3 : ∀ w ∈ u_ws RX3 TX3 5, w ∈ wsX5_init := by decide +kernel
theorem in_X5_init_X4 : ∀ w ∈ u_ws RX4 TX4 6, w ∈ wsX5_init := by decide +kernel
theorem in_X5_init_X5 : ∀ w ∈ u_ws RX5 TX5 15, w ∈ wsX5_init := by decide +kernel
def laneB (g : GT) (q : Nat → Nat) : va_W := [(q 0, .inr (2, [.int 0, .int 0, .int 0, .ref (q 1), .ref (q 2), .ref (q 3), .ref (q 4), .ref (q 5), .ref (q 6)])), (q 1, dq_ar g 5 (fun _ => 0)), (q 2, dq_ar g 5 (fun _ => 0)), (q 3, dq_ar g 8 (fun _ => 0)), (q 4, dq_ar g 8 (fun _ => 0)), (q 5, dq_ar g 8 (fun _ => 0)), (q 6, dq_ar g 4 (fun _ => 0))]
def sceneB (g : GT) (b : Nat) (q : Nat → Nat) : va_W := [(q 0, .inr (4, [.ref b, .ref (q 1), .ref (q 2), .ref (q 3), .int 0, .int 0])), (q 1, dq_ar g 5 (fun _ => 0)), (q 2, dq_ar g 5 (fun _ => 0)), (q 3, dq_ar g 5 (fun _ => 0))]
def scBs (g : GT) (b : Nat) (Q : Nat → Nat → Nat) : Nat → va_W
  | 0 => []
  | i + 1 => scBs g b Q i ++ sceneB g b (Q i)
def heardB (g : GT) (q : Nat → Nat) : va_W := [(q 0, .inr (1, [.ref (q 1), .ref (q 2), .ref (q 3), .int 0])), (q 1, dq_ar g 6 (fun _ => 0)), (q 2, dq_ar g 6 (fun _ => 0)), (q 3, dq_br g 6 (fun _ => 0))]
def readerB (g : GT) (a f : Nat) (q : Nat → Nat) : va_W := [(a, .inr (3, [.ref (q 0), .ref f, .int 0, .int 0, .int 0]))] ++ laneB g q ++ [(f, dq_ar g 3 (fun _ => 0))]
def actsB (g : GT) (a b ar : Nat) (Q : Nat → Nat → Nat) : va_W := (a, .inr (0, [.ref ar, .int 0, .int 0])) :: (ar, dq_sr g 14 (fun k => some (Q k 0))) :: scBs g b Q 14
def modelB (g : GT) (q : Nat → Nat) : va_W := [(q 0, .inr (6, [.int 0, .int 0, .int 0, .ref (q 1), .ref (q 2), .ref (q 3), .ref (q 4), .ref (q 5), .ref (q 6), .ref (q 7), .ref (q 8), .int 0, .int 0, .int 0, .ref (q 9), .int 0, .int 0, .int 0, .int 0, .int 0, .ref (q 10), .int 0, .ref (q 11), .ref (q 12), .ref (q 13), .long 0, .ref (q 14), .ref (q 15)])), (q 1, dq_ar g 5 (fun _ => 0)), (q 2, dq_ar g 5 (fun _ => 0)), (q 3, dq_ar g 24 (fun _ => 0)), (q 4, dq_ar g 4 (fun _ => 0)), (q 5, dq_ar g 34 (fun _ => 0)), (q 6, dq_ar g 10 (fun _ => 0)), (q 7, dq_ar g 24 (fun _ => 0)), (q 8, dq_ar g 4 (fun _ => 0)), (q 9, dq_ar g 64 (fun _ => 0)), (q 10, dq_ar g 238 (fun _ => 0)), (q 11, dq_ar g 6 (fun _ => 0)), (q 12, dq_ar g 6 (fun _ => 0)), (q 13, dq_ar g 6 (fun _ => 0)), (q 14, dq_br g 2 (fun _ => 0)), (q 15, dq_ar g 34 (fun _ => 0))]
def earsB (g : GT) (s qt qd qn qr qh : Nat → Nat) (Q KQ : Nat → Nat → Nat) : va_W := (s 0, .inr (5, [.ref (s 1), .int 0, .ref (qt 0), .ref (s 8), .ref (qn 0), .ref (qr 0), .ref (s 10), .ref (qh 0), .ref (s 2), .ref (s 3), .long 0, .ref (s 4), .ref (s 5), .ref (s 6), .ref (s 7)])) :: (([] ++ [(s 1, dq_ar g 64 (fun _ => 0))] ++ [(s 2, dq_sr g 2 (fun k => some (KQ k 0)))] ++ [(s 3, dq_br g 2 (fun _ => 0))] ++ [(s 4, dq_ar g 12 (fun _ => 0))] ++ [(s 5, dq_ar g 5 (fun _ => 0))] ++ [(s 6, dq_ar g 4 (fun _ => 0))] ++ [(s 7, dq_ar g 4 (fun _ => 0))] ++ laneB g qt ++ readerB g (s 8) (s 9) qd ++ sceneB g (qt 0) qn ++ sceneB g (qt 0) qr ++ actsB g (s 10) (qt 0) (s 11) Q ++ heardB g qh ++ sceneB g (qt 0) (KQ 0) ++ sceneB g (qt 0) (KQ 1)) : va_W)
theorem scBs_cong {g : GT} {b : Nat} {Q Q' : Nat → Nat → Nat} : ∀ {i : Nat}, (∀ k, k < i → Q k = Q' k) → scBs g b Q i = scBs g b Q' i
  | 0, _ => rfl
  | i + 1, h => by rw [scBs, scBs, scBs_cong (fun k hk => h k (by omega)), h i (by omega)]
def qs (l : List Nat) : Nat → Nat := fun k => l.getD k 0
theorem bo_kn {g : GT} {mi : MI} {d nc ns : Nat} {R : va_W → Prop} {ws : va_W} {k k' n n' pc : Nat} {lv : List (Option Value)} {st : List Value} (h1 : k = k') (h2 : n = n') (K : JB g mi d nc ns R ws k' n' pc lv st) : JB g mi d nc ns R ws k n pc lv st := by subst h1; subst h2; exact K
theorem bo_unapp {g : GT} {mi : MI} {d nc ns : Nat} {R : va_W → Prop} {X Y Z : va_W} {e : Nat × va_E} {k n pc : Nat} {lv : List (Option Value)} {st : List Value} (K : JB g mi d nc ns R ((X ++ e :: Y) ++ Z) k n pc lv st) : JB g mi d nc ns R (X ++ e :: (Y ++ Z)) k n pc lv st := bo_ws (by rw [List.append_assoc]; rfl) K
theorem bo_in2 {g : GT} {mi : MI} {d nc ns : Nat} {R : va_W → Prop} {X Z : va_W} {e1 e2 e3 : Nat × va_E} {k n pc : Nat} {lv : List (Option Value)} {st : List Value} (K : JB g mi d nc ns R ((X ++ [e1, e2]) ++ e3 :: Z) k n pc lv st) : JB g mi d nc ns R (X ++ e1 :: (e2 :: e3 :: Z)) k n pc lv st := bo_ws (by rw [List.append_assoc]; rfl) K
theorem bo_out2 {g : GT} {mi : MI} {d nc ns : Nat} {R : va_W → Prop} {X Z : va_W} {e1 e2 e3 : Nat × va_E} {k n pc : Nat} {lv : List (Option Value)} {st : List Value} (K : JB g mi d nc ns R (X ++ e1 :: (e2 :: e3 :: Z)) k n pc lv st) : JB g mi d nc ns R ((X ++ [e1, e2]) ++ e3 :: Z) k n pc lv st := bo_ws (by rw [List.append_assoc]; rfl) K
theorem bo_in1 {g : GT} {mi : MI} {d nc ns : Nat} {R : va_W → Prop} {X Z : va_W} {e1 e3 : Nat × va_E} {k n pc : Nat} {lv : List (Option Value)} {st : List Value} (K : JB g mi d nc ns R ((X ++ [e1]) ++ e3 :: Z) k n pc lv st) : JB g mi d nc ns R (X ++ e1 :: (e3 :: Z)) k n pc lv st := bo_ws (by rw [List.append_assoc]; rfl) K
theorem bo_out1 {g : GT} {mi : MI} {d nc ns : Nat} {R : va_W → Prop} {X Z : va_W} {e1 e3 : Nat × va_E} {k n pc : Nat} {lv : List (Option Value)} {st : List Value} (K : JB g mi d nc ns R (X ++ e1 :: (e3 :: Z)) k n pc lv st) : JB g mi d nc ns R ((X ++ [e1]) ++ e3 :: Z) k n pc lv st := bo_ws (by rw [List.append_assoc]; rfl) K
theorem ci_lane {g : GT} {X : va_W} {a : Nat} : CTB g mX2_init 1 6 38 [.ref a] (X ++ [(a, .inr (2, [.int 0, .int 0, .int 0, .null, .null, .null, .null, .null, .null]))]) (fun ws => ∃ q : Nat → Nat, q 0 = a ∧ ws = X ++ laneB g q) := by
  refine ctb_of ok_X2_init rfl rfl (lv := [some (.ref a)]) rfl (Nat.le_of_ble_eq_true rfl) ?_
  refine bo_aload_n dX2_init_0 rfl rfl ?_
  refine bo_obj (by decide +kernel) (by decide +kernel) (by decide +kernel) dX2_init_1 (by decide) ?_
  refine bo_aload_n dX2_init_4 rfl rfl ?_
  refine bo_iconst (v := 5) dX2_init_5 (by decide) ?_
  refine bo_newI (N := 5) (by decide +kernel) (by decide) (by decide) (by decide) (by decide) dX2_init_6 (fun q6 => ?_)
  refine bo_app ?_
  refine bo_putF (fs' := [.int 0, .int 0, .int 0, .ref q6, .null, .null, .null, .null, .null]) (ci := 2) (ty := .array .int) tyX2 3 tyX2_ok nmX2 rfl in_X2_init_X2 (by decide) (by decide +kernel) rfl rfl (by decide +kernel) rfl rfl (Nat.le_of_ble_eq_true rfl) rfl dX2_init_8 ?_
  refine bo_aload_n dX2_init_11 rfl rfl ?_
  refine bo_iconst (v := 5) dX2_init_12 (by decide) ?_
  refine bo_newI (N := 5) (by decide +kernel) (by decide) (by decide) (by decide) (by decide) dX2_init_13 (fun q13 => ?_)
  refine bo_app ?_
  refine bo_putF (fs' := [.int 0, .int 0, .int 0, .ref q6, .ref q13, .null, .null, .null, .null]) (ci := 2) (ty := .array .int) tyX2 4 tyX2_ok nmX2 rfl in_X2_init_X2 (by decide) (by decide +kernel) rfl rfl (by decide +kernel) rfl rfl (Nat.le_of_ble_eq_true rfl) rfl dX2_init_15 ?_
  refine bo_aload_n dX2_init_18 rfl rfl ?_
  refine bo_bipush (v := 8) dX2_init_19 (by decide) ?_
  refine bo_newI (N := 8) (by decide +kernel) (by decide) (by decide) (by decide) (by decide) dX2_init_21 (fun q21 => ?_)
  refine bo_app ?_
  refine bo_putF (fs' := [.int 0, .int 0, .int 0, .ref q6, .ref q13, .ref q21, .null, .null, .null]) (ci := 2) (ty := .array .int) tyX2 5 tyX2_ok nmX2 rfl in_X2_init_X2 (by decide) (by decide +kernel) rfl rfl (by decide +kernel) rfl rfl (Nat.le_of_ble_eq_true rfl) rfl dX2_init_23 ?_
  refine bo_aload_n dX2_init_26 rfl rfl ?_
  refine bo_bipush (v := 8) dX2_init_27 (by decide) ?_
  refine bo_newI (N := 8) (by decide +kernel) (by decide) (by decide) (by decide) (by decide) dX2_init_29 (fun q29 => ?_)
  refine bo_app ?_
  refine bo_putF (fs' := [.int 0, .int 0, .int 0, .ref q6, .ref q13, .ref q21, .ref q29, .null, .null]) (ci := 2) (ty := .array .int) tyX2 6 tyX2_ok nmX2 rfl in_X2_init_X2 (by decide) (by decide +kernel) rfl rfl (by decide +kernel) rfl rfl (Nat.le_of_ble_eq_true rfl) rfl dX2_init_31 ?_
  refine bo_aload_n dX2_init_34 rfl rfl ?_
  refine bo_bipush (v := 8) dX2_init_35 (by decide) ?_
  refine bo_newI (N := 8) (by decide +kernel) (by decide) (by decide) (by decide) (by decide) dX2_init_37 (fun q37 => ?_)
  refine bo_app ?_
  refine bo_putF (fs' := [.int 0, .int 0, .int 0, .ref q6, .ref q13, .ref q21, .ref q29, .ref q37, .null]) (ci := 2) (ty := .array .int) tyX2 7 tyX2_ok nmX2 rfl in_X2_init_X2 (by decide) (by decide +kernel) rfl rfl (by decide +kernel) rfl rfl (Nat.le_of_ble_eq_true rfl) rfl dX2_init_39 ?_
  refine bo_aload_n dX2_init_42 rfl rfl ?_
  refine bo_iconst (v := 4) dX2_init_43 (by decide) ?_
  refine bo_newI (N := 4) (by decide +kernel) (by decide) (by decide) (by decide) (by decide) dX2_init_44 (fun q44 => ?_)
  refine bo_app ?_
  refine bo_putF (fs' := [.int 0, .int 0, .int 0, .ref q6, .ref q13, .ref q21, .ref q29, .ref q37, .ref q44]) (ci := 2) (ty := .array .int) tyX2 8 tyX2_ok nmX2 rfl in_X2_init_X2 (by decide) (by decide +kernel) rfl rfl (by decide +kernel) rfl rfl (Nat.le_of_ble_eq_true rfl) rfl dX2_init_46 ?_
  refine bo_ret dX2_init_49 ?_
  exact ⟨qs [a, q6, q13, q21, q29, q37, q44], rfl, rfl⟩
theorem ci_scene {g : GT} {X : va_W} {a b : Nat} : CTB g mX4_init 1 3 15 [.ref a, .ref b] (X ++ [(a, .inr (4, [.null, .null, .null, .null, .int 0, .int 0]))]) (fun ws => ∃ q : Nat → Nat, q 0 = a ∧ ws = X ++ sceneB g b q) := by
  refine ctb_of ok_X4_init rfl rfl (lv := [some (.ref a), some (.ref b)]) rfl (Nat.le_of_ble_eq_true rfl) ?_
  refine bo_aload_n dX4_init_0 rfl rfl ?_
  refine bo_obj (by decide +kernel) (by decide +kernel) (by decide +kernel) dX4_init_1 (by decide) ?_
  refine bo_aload_n dX4_init_4 rfl rfl ?_
  refine bo_iconst (v := 5) dX4_init_5 (by decide) ?_
  refine bo_newI (N := 5) (by decide +kernel) (by decide) (by decide) (by decide) (by decide) dX4_init_6 (fun q6 => ?_)
  refine bo_app ?_
  refine bo_putF (fs' := [.null, .ref q6, .null, .null, .int 0, .int 0]) (ci := 4) (ty := .array .int) tyX4 1 tyX4_ok nmX4 rfl in_X4_init_X4 (by decide) (by decide +kernel) rfl rfl (by decide +kernel) rfl rfl (Nat.le_of_ble_eq_true rfl) rfl dX4_init_8 ?_
  refine bo_aload_n dX4_init_11 rfl rfl ?_
  refine bo_iconst (v := 5) dX4_init_12 (by decide) ?_
  refine bo_newI (N := 5) (by decide +kernel) (by decide) (by decide) (by decide) (by decide) dX4_init_13 (fun q13 => ?_)
  refine bo_app ?_
  refine bo_putF (fs' := [.null, .ref q6, .ref q13, .null, .int 0, .int 0]) (ci := 4) (ty := .array .int) tyX4 2 tyX4_ok nmX4 rfl in_X4_init_X4 (by decide) (by decide +kernel) rfl rfl (by decide +kernel) rfl rfl (Nat.le_of_ble_eq_true rfl) rfl dX4_init_15 ?_
  refine bo_aload_n dX4_init_18 rfl rfl ?_
  refine bo_iconst (v := 5) dX4_init_19 (by decide) ?_
  refine bo_newI (N := 5) (by decide +kernel) (by decide) (by decide) (by decide) (by decide) dX4_init_20 (fun q20 => ?_)
  refine bo_app ?_
  refine bo_putF (fs' := [.null, .ref q6, .ref q13, .ref q20, .int 0, .int 0]) (ci := 4) (ty := .array .int) tyX4 3 tyX4_ok nmX4 rfl in_X4_init_X4 (by decide) (by decide +kernel) rfl rfl (by decide +kernel) rfl rfl (Nat.le_of_ble_eq_true rfl) rfl dX4_init_22 ?_
  refine bo_aload_n dX4_init_25 rfl rfl ?_
  refine bo_aload_n dX4_init_26 rfl rfl ?_
  refine bo_putF (fs' := [.ref b, .ref q6, .ref q13, .ref q20, .int 0, .int 0]) (ci := 4) (ty := .object "DripEars$Lane") tyX4 0 tyX4_ok nmX4 rfl in_X4_init_X4 (by decide) (by decide +kernel) rfl rfl (by decide +kernel) rfl rfl (Nat.le_of_ble_eq_true rfl) rfl dX4_init_27 ?_
  refine bo_ret dX4_init_30 ?_
  exact ⟨qs [a, q6, q13, q20], rfl, rfl⟩
theorem ci_heard {g : GT} {X : va_W} {a : Nat} : CTB g mX1_init 1 3 18 [.ref a] (X ++ [(a, .inr (1, [.null, .null, .null, .int 0]))]) (fun ws => ∃ q : Nat → Nat, q 0 = a ∧ ws = X ++ heardB g q) := by
  refine ctb_of ok_X1_init rfl rfl (lv := [some (.ref a)]) rfl (Nat.le_of_ble_eq_true rfl) ?_
  refine bo_aload_n dX1_init_0 rfl rfl ?_
  refine bo_obj (by decide +kernel) (by decide +kernel) (by decide +kernel) dX1_init_1 (by decide) ?_
  refine bo_aload_n dX1_init_4 rfl rfl ?_
  refine bo_bipush (v := 6) dX1_init_5 (by decide) ?_
  refine bo_newI (N := 6) (by decide +kernel) (by decide) (by decide) (by decide) (by decide) dX1_init_7 (fun q7 => ?_)
  refine bo_app ?_
  refine bo_putF (fs' := [.ref q7, .null, .null, .int 0]) (ci := 1) (ty := .array .int) tyX1 0 tyX1_ok nmX1 rfl in_X1_init_X1 (by decide) (by decide +kernel) rfl rfl (by decide +kernel) rfl rfl (Nat.le_of_ble_eq_true rfl) rfl dX1_init_9 ?_
  refine bo_aload_n dX1_init_12 rfl rfl ?_
  refine bo_bipush (v := 6) dX1_init_13 (by decide) ?_
  refine bo_newI (N := 6) (by decide +kernel) (by decide) (by decide) (by decide) (by decide) dX1_init_15 (fun q15 => ?_)
  refine bo_app ?_
  refine bo_putF (fs' := [.ref q7, .ref q15, .null, .int 0]) (ci := 1) (ty := .array .int) tyX1 1 tyX1_ok nmX1 rfl in_X1_init_X1 (by decide) (by decide +kernel) rfl rfl (by decide +kernel) rfl rfl (Nat.le_of_ble_eq_true rfl) rfl dX1_init_17 ?_
  refine bo_aload_n dX1_init_20 rfl rfl ?_
  refine bo_bipush (v := 6) dX1_init_21 (by decide) ?_
  refine bo_newZ (N := 6) (by decide +kernel) (by decide) (by decide) (by decide) (by decide) dX1_init_23 (fun q23 => ?_)
  refine bo_app ?_
  refine bo_putF (fs' := [.ref q7, .ref q15, .ref q23, .int 0]) (ci := 1) (ty := .array .boolean) tyX1 2 tyX1_ok nmX1 rfl in_X1_init_X1 (by decide) (by decide +kernel) rfl rfl (by decide +kernel) rfl rfl (Nat.le_of_ble_eq_true rfl) rfl dX1_init_25 ?_
  refine bo_ret dX1_init_28 ?_
  exact ⟨qs [a, q7, q15, q23], rfl, rfl⟩
theorem ci_model {g : GT} {X : va_W} {a : Nat} : CTB g mX6_init 1 15 466 [.ref a] (X ++ [(a, .inr (6, [.int 0, .int 0, .int 0, .null, .null, .null, .null, .null, .null, .null, .null, .int 0, .int 0, .int 0, .null, .int 0, .int 0, .int 0, .int 0, .int 0, .null, .int 0, .null, .null, .null, .long 0, .null, .null]))]) (fun ws => ∃ q : Nat → Nat, q 0 = a ∧ ws = X ++ modelB g q) := by
  refine ctb_of ok_X6_init rfl rfl (lv := [some (.ref a)]) rfl (Nat.le_of_ble_eq_true rfl) ?_
  refine bo_aload_n dX6_init_0 rfl rfl ?_
  refine bo_obj (by decide +kernel) (by decide +kernel) (by decide +kernel) dX6_init_1 (by decide) ?_
  refine bo_aload_n dX6_init_4 rfl rfl ?_
  refine bo_iconst (v := 5) dX6_init_5 (by decide) ?_
  refine bo_newI (N := 5) (by decide +kernel) (by decide) (by decide) (by decide) (by decide) dX6_init_6 (fun q6 => ?_)
  refine bo_app ?_
  refine bo_putF (fs' := [.int 0, .int 0, .int 0, .ref q6, .null, .null, .null, .null, .null, .null, .null, .int 0, .int 0, .int 0, .null, .int 0, .int 0, .int 0, .int 0, .int 0, .null, .int 0, .null, .null, .null, .long 0, .null, .null]) (ci := 6) (ty := .array .int) tyX6 3 tyX6_ok nmX6 rfl in_X6_init_X6 (by decide) (by decide +kernel) rfl rfl (by decide +kernel) rfl rfl (Nat.le_of_ble_eq_true rfl) rfl dX6_init_8 ?_
  refine bo_aload_n dX6_init_11 rfl rfl ?_
  refine bo_iconst (v := 5) dX6_init_12 (by decide) ?_
  refine bo_newI (N := 5) (by decide +kernel) (by decide) (by decide) (by decide) (by decide) dX6_init_13 (fun q13 => ?_)
  refine bo_app ?_
  refine bo_putF (fs' := [.int 0, .int 0, .int 0, .ref q6, .ref q13, .null, .null, .null, .null, .null, .null, .int 0, .int 0, .int 0, .null, .int 0, .int 0, .int 0, .int 0, .int 0, .null, .int 0, .null, .null, .null, .long 0, .null, .null]) (ci := 6) (ty := .array .int) tyX6 4 tyX6_ok nmX6 rfl in_X6_init_X6 (by decide) (by decide +kernel) rfl rfl (by decide +kernel) rfl rfl (Nat.le_of_ble_eq_true rfl) rfl dX6_init_15 ?_
  refine bo_aload_n dX6_init_18 rfl rfl ?_
  refine bo_bipush (v := 24) dX6_init_19 (by decide) ?_
  refine bo_newI (N := 24) (by decide +kernel) (by decide) (by decide) (by decide) (by decide) dX6_init_21 (fun q21 => ?_)
  refine bo_app ?_
  refine bo_putF (fs' := [.int 0, .int 0, .int 0, .ref q6, .ref q13, .ref q21, .null, .null, .null, .null, .null, .int 0, .int 0, .int 0, .null, .int 0, .int 0, .int 0, .int 0, .int 0, .null, .int 0, .null, .null, .null, .long 0, .null, .null]) (ci := 6) (ty := .array .int) tyX6 5 tyX6_ok nmX6 rfl in_X6_init_X6 (by decide) (by decide +kernel) rfl rfl (by decide +kernel) rfl rfl (Nat.le_of_ble_eq_true rfl) rfl dX6_init_23 ?_
  refine bo_aload_n dX6_init_26 rfl rfl ?_
  refine bo_iconst (v := 4) dX6_init_27 (by decide) ?_
  refine bo_newI (N := 4) (by decide +kernel) (by decide) (by decide) (by decide) (by decide) dX6_init_28 (fun q28 => ?_)
  refine bo_app ?_
  refine bo_putF (fs' := [.int 0, .int 0, .int 0, .ref q6, .ref q13, .ref q21, .ref q28, .null, .null, .null, .null, .int 0, .int 0, .int 0, .null, .int 0, .int 0, .int 0, .int 0, .int 0, .null, .int 0, .null, .null, .null, .long 0, .null, .null]) (ci := 6) (ty := .array .int) tyX6 6 tyX6_ok nmX6 rfl in_X6_init_X6 (by decide) (by decide +kernel) rfl rfl (by decide +kernel) rfl rfl (Nat.le_of_ble_eq_true rfl) rfl dX6_init_30 ?_
  refine bo_aload_n dX6_init_33 rfl rfl ?_
  refine bo_bipush (v := 34) dX6_init_34 (by decide) ?_
  refine bo_newI (N := 34) (by decide +kernel) (by decide) (by decide) (by decide) (by decide) dX6_init_36 (fun q36 => ?_)
  refine bo_app ?_
  refine bo_putF (fs' := [.int 0, .int 0, .int 0, .ref q6, .ref q13, .ref q21, .ref q28, .ref q36, .null, .null, .null, .int 0, .int 0, .int 0, .null, .int 0, .int 0, .int 0, .int 0, .int 0, .null, .int 0, .null, .null, .null, .long 0, .null, .null]) (ci := 6) (ty := .array .int) tyX6 7 tyX6_ok nmX6 rfl in_X6_init_X6 (by decide) (by decide +kernel) rfl rfl (by decide +kernel) rfl rfl (Nat.le_of_ble_eq_true rfl) rfl dX6_init_38 ?_
  refine bo_aload_n dX6_init_41 rfl rfl ?_
  refine bo_bipush (v := 10) dX6_init_42 (by decide) ?_
  refine bo_newI (N := 10) (by decide +kernel) (by decide) (by decide) (by decide) (by decide) dX6_init_44 (fun q44 => ?_)
  refine bo_app ?_
  refine bo_putF (fs' := [.int 0, .int 0, .int 0, .ref q6, .ref q13, .ref q21, .ref q28, .ref q36, .ref q44, .null, .null, .int 0, .int 0, .int 0, .null, .int 0, .int 0, .int 0, .int 0, .int 0, .null, .int 0, .null, .null, .null, .long 0, .null, .null]) (ci := 6) (ty := .array .int) tyX6 8 tyX6_ok nmX6 rfl in_X6_init_X6 (by decide) (by decide +kernel) rfl rfl (by decide +kernel) rfl rfl (Nat.le_of_ble_eq_true rfl) rfl dX6_init_46 ?_
  refine bo_aload_n dX6_init_49 rfl rfl ?_
  refine bo_bipush (v := 24) dX6_init_50 (by decide) ?_
  refine bo_newI (N := 24) (by decide +kernel) (by decide) (by decide) (by decide) (by decide) dX6_init_52 (fun q52 => ?_)
  refine bo_app ?_
  refine bo_putF (fs' := [.int 0, .int 0, .int 0, .ref q6, .ref q13, .ref q21, .ref q28, .ref q36, .ref q44, .ref q52, .null, .int 0, .int 0, .int 0, .null, .int 0, .int 0, .int 0, .int 0, .int 0, .null, .int 0, .null, .null, .null, .long 0, .null, .null]) (ci := 6) (ty := .array .int) tyX6 9 tyX6_ok nmX6 rfl in_X6_init_X6 (by decide) (by decide +kernel) rfl rfl (by decide +kernel) rfl rfl (Nat.le_of_ble_eq_true rfl) rfl dX6_init_54 ?_
  refine bo_aload_n dX6_init_57 rfl rfl ?_
  refine bo_iconst (v := 4) dX6_init_58 (by decide) ?_
  refine bo_newI (N := 4) (by decide +kernel) (by decide) (by decide) (by decide) (by decide) dX6_init_59 (fun q59 => ?_)
  refine bo_app ?_
  refine bo_putF (fs' := [.int 0, .int 0, .int 0, .ref q6, .ref q13, .ref q21, .ref q28, .ref q36, .ref q44, .ref q52, .ref q59, .int 0, .int 0, .int 0, .null, .int 0, .int 0, .int 0, .int 0, .int 0, .null, .int 0, .null, .null, .null, .long 0, .null, .null]) (ci := 6) (ty := .array .int) tyX6 10 tyX6_ok nmX6 rfl in_X6_init_X6 (by decide) (by decide +kernel) rfl rfl (by decide +kernel) rfl rfl (Nat.le_of_ble_eq_true rfl) rfl dX6_init_61 ?_
  refine bo_aload_n dX6_init_64 rfl rfl ?_
  refine bo_bipush (v := 64) dX6_init_65 (by decide) ?_
  refine bo_newI (N := 64) (by decide +kernel) (by decide) (by decide) (by decide) (by decide) dX6_init_67 (fun q67 => ?_)
  refine bo_app ?_
  refine bo_putF (fs' := [.int 0, .int 0, .int 0, .ref q6, .ref q13, .ref q21, .ref q28, .ref q36, .ref q44, .ref q52, .ref q59, .int 0, .int 0, .int 0, .ref q67, .int 0, .int 0, .int 0, .int 0, .int 0, .null, .int 0, .null, .null, .null, .long 0, .null, .null]) (ci := 6) (ty := .array .int) tyX6 14 tyX6_ok nmX6 rfl in_X6_init_X6 (by decide) (by decide +kernel) rfl rfl (by decide +kernel) rfl rfl (Nat.le_of_ble_eq_true rfl) rfl dX6_init_69 ?_
  refine bo_aload_n dX6_init_72 rfl rfl ?_
  refine bo_sipush (v := 238) dX6_init_73 (by decide) ?_
  refine bo_newI (N := 238) (by decide +kernel) (by decide) (by decide) (by decide) (by decide) dX6_init_76 (fun q76 => ?_)
  refine bo_app ?_
  refine bo_putF (fs' := [.int 0, .int 0, .int 0, .ref q6, .ref q13, .ref q21, .ref q28, .ref q36, .ref q44, .ref q52, .ref q59, .int 0, .int 0, .int 0, .ref q67, .int 0, .int 0, .int 0, .int 0, .int 0, .ref q76, .int 0, .null, .null, .null, .long 0, .null, .null]) (ci := 6) (ty := .array .int) tyX6 20 tyX6_ok nmX6 rfl in_X6_init_X6 (by decide) (by decide +kernel) rfl rfl (by decide +kernel) rfl rfl (Nat.le_of_ble_eq_true rfl) rfl dX6_init_78 ?_
  refine bo_aload_n dX6_init_81 rfl rfl ?_
  refine bo_bipush (v := 6) dX6_init_82 (by decide) ?_
  refine bo_newI (N := 6) (by decide +kernel) (by decide) (by decide) (by decide) (by decide) dX6_init_84 (fun q84 => ?_)
  refine bo_app ?_
  refine bo_putF (fs' := [.int 0, .int 0, .int 0, .ref q6, .ref q13, .ref q21, .ref q28, .ref q36, .ref q44, .ref q52, .ref q59, .int 0, .int 0, .int 0, .ref q67, .int 0, .int 0, .int 0, .int 0, .int 0, .ref q76, .int 0, .ref q84, .null, .null, .long 0, .null, .null]) (ci := 6) (ty := .array .int) tyX6 22 tyX6_ok nmX6 rfl in_X6_init_X6 (by decide) (by decide +kernel) rfl rfl (by decide +kernel) rfl rfl (Nat.le_of_ble_eq_true rfl) rfl dX6_init_86 ?_
  refine bo_aload_n dX6_init_89 rfl rfl ?_
  refine bo_bipush (v := 6) dX6_init_90 (by decide) ?_
  refine bo_newI (N := 6) (by decide +kernel) (by decide) (by decide) (by decide) (by decide) dX6_init_92 (fun q92 => ?_)
  refine bo_app ?_
  refine bo_putF (fs' := [.int 0, .int 0, .int 0, .ref q6, .ref q13, .ref q21, .ref q28, .ref q36, .ref q44, .ref q52, .ref q59, .int 0, .int 0, .int 0, .ref q67, .int 0, .int 0, .int 0, .int 0, .int 0, .ref q76, .int 0, .ref q84, .ref q92, .null, .long 0, .null, .null]) (ci := 6) (ty := .array .int) tyX6 23 tyX6_ok nmX6 rfl in_X6_init_X6 (by decide) (by decide +kernel) rfl rfl (by decide +kernel) rfl rfl (Nat.le_of_ble_eq_true rfl) rfl dX6_init_94 ?_
  refine bo_aload_n dX6_init_97 rfl rfl ?_
  refine bo_bipush (v := 6) dX6_init_98 (by decide) ?_
  refine bo_newI (N := 6) (by decide +kernel) (by decide) (by decide) (by decide) (by decide) dX6_init_100 (fun q100 => ?_)
  refine bo_app ?_
  refine bo_putF (fs' := [.int 0, .int 0, .int 0, .ref q6, .ref q13, .ref q21, .ref q28, .ref q36, .ref q44, .ref q52, .ref q59, .int 0, .int 0, .int 0, .ref q67, .int 0, .int 0, .int 0, .int 0, .int 0, .ref q76, .int 0, .ref q84, .ref q92, .ref q100, .long 0, .null, .null]) (ci := 6) (ty := .array .int) tyX6 24 tyX6_ok nmX6 rfl in_X6_init_X6 (by decide) (by decide +kernel) rfl rfl (by decide +kernel) rfl rfl (Nat.le_of_ble_eq_true rfl) rfl dX6_init_102 ?_
  refine bo_aload_n dX6_init_105 rfl rfl ?_
  refine bo_iconst (v := 2) dX6_init_106 (by decide) ?_
  refine bo_newZ (N := 2) (by decide +kernel) (by decide) (by decide) (by decide) (by decide) dX6_init_107 (fun q107 => ?_)
  refine bo_app ?_
  refine bo_putF (fs' := [.int 0, .int 0, .int 0, .ref q6, .ref q13, .ref q21, .ref q28, .ref q36, .ref q44, .ref q52, .ref q59, .int 0, .int 0, .int 0, .ref q67, .int 0, .int 0, .int 0, .int 0, .int 0, .ref q76, .int 0, .ref q84, .ref q92, .ref q100, .long 0, .ref q107, .null]) (ci := 6) (ty := .array .boolean) tyX6 26 tyX6_ok nmX6 rfl in_X6_init_X6 (by decide) (by decide +kernel) rfl rfl (by decide +kernel) rfl rfl (Nat.le_of_ble_eq_true rfl) rfl dX6_init_109 ?_
  refine bo_aload_n dX6_init_112 rfl rfl ?_
  refine bo_bipush (v := 34) dX6_init_113 (by decide) ?_
  refine bo_newI (N := 34) (by decide +kernel) (by decide) (by decide) (by decide) (by decide) dX6_init_115 (fun q115 => ?_)
  refine bo_app ?_
  refine bo_putF (fs' := [.int 0, .int 0, .int 0, .ref q6, .ref q13, .ref q21, .ref q28, .ref q36, .ref q44, .ref q52, .ref q59, .int 0, .int 0, .int 0, .ref q67, .int 0, .int 0, .int 0, .int 0, .int 0, .ref q76, .int 0, .ref q84, .ref q92, .ref q100, .long 0, .ref q107, .ref q115]) (ci := 6) (ty := .array .int) tyX6 27 tyX6_ok nmX6 rfl in_X6_init_X6 (by decide) (by decide +kernel) rfl rfl (by decide +kernel) rfl rfl (Nat.le_of_ble_eq_true rfl) rfl dX6_init_117 ?_
  refine bo_ret dX6_init_120 ?_
  exact ⟨qs [a, q6, q13, q21, q28, q36, q44, q52, q59, q67, q76, q84, q92, q100, q107, q115], rfl, rfl⟩
theorem ci_reader {g : GT} {X : va_W} {a : Nat} : CTB g mX3_init 2 8 50 [.ref a] (X ++ [(a, .inr (3, [.null, .null, .int 0, .int 0, .int 0]))]) (fun ws => ∃ (f : Nat) (q : Nat → Nat), ws = X ++ readerB g a f q) := by
  refine ctb_of ok_X3_init rfl rfl (lv := [some (.ref a)]) rfl (Nat.le_of_ble_eq_true rfl) ?_
  refine bo_aload_n dX3_init_0 rfl rfl ?_
  refine bo_obj (by decide +kernel) (by decide +kernel) (by decide +kernel) dX3_init_1 (by decide) ?_
  refine bo_aload_n dX3_init_4 rfl rfl ?_
  refine bo_new (ci := 2) (fs := [.int 0, .int 0, .int 0, .null, .null, .null, .null, .null, .null]) tyX2 tyX2_ok rfl in_X3_init_X2 (by decide +kernel) (by decide +kernel) (by decide +kernel) (by decide +kernel) (by decide) (by decide) dX3_init_5 (fun q5 => ?_)
  refine bo_dup dX3_init_8 rfl ?_
  refine bo_callN (As := []) ok_X2_init rfl rfl ci_lane gX3_init_X2_init_n11 (by decide +kernel) (fun U h => h.2.2.2.1) (by decide +kernel) (by decide) (by decide) (by decide) rfl (Nat.le_of_ble_eq_true rfl) dX3_init_9 (fun ws1 h1 => ?_)
  obtain ⟨ql, ql0, rfl⟩ := h1
  refine bo_app ?_
  rw [← ql0]
  refine bo_putF (fs' := [.ref (ql 0), .null, .int 0, .int 0, .int 0]) (ci := 3) (ty := .object "DripEars$Lane") tyX3 0 tyX3_ok nmX3 rfl in_X3_init_X3 (by decide) (by decide +kernel) rfl rfl (by decide +kernel) rfl rfl (Nat.le_of_ble_eq_true rfl) rfl dX3_init_12 ?_
  refine bo_aload_n dX3_init_15 rfl rfl ?_
  refine bo_iconst (v := 3) dX3_init_16 (by decide) ?_
  refine bo_newI (N := 3) (by decide +kernel) (by decide) (by decide) (by decide) (by decide) dX3_init_17 (fun q17 => ?_)
  refine bo_app ?_
  refine bo_putF (fs' := [.ref (ql 0), .ref q17, .int 0, .int 0, .int 0]) (ci := 3) (ty := .array .int) tyX3 1 tyX3_ok nmX3 rfl in_X3_init_X3 (by decide) (by decide +kernel) rfl rfl (by decide +kernel) rfl rfl (Nat.le_of_ble_eq_true rfl) rfl dX3_init_19 ?_
  refine bo_ret dX3_init_22 ?_
  exact ⟨q17, ql, rfl⟩
theorem li_acts {g : GT} {X : va_W} {a b ar : Nat} : ∀ (m i : Nat), i + m = 14 → ∀ (f : Nat → Option Nat) (Q : Nat → Nat → Nat), (∀ k, k < i → f k = some (Q k 0)) → JB g mX0_init 2 57 308 (fun ws => ∃ (ar : Nat) (Q : Nat → Nat → Nat), ws = X ++ actsB g a b ar Q) (X ++ (a, .inr (0, [.ref ar, .int 0, .int 0])) :: (ar, dq_sr g 14 f) :: scBs g b Q i) (1 + 4 * i) (14 + 21 * i) 15 [some (.ref a), some (.ref b), some (.int (nI i))] [] := by
  intro m
  induction m with
  | zero =>
    intro i hi f Q hf
    refine bo_iload_n dX0_init_15 rfl rfl ?_
    refine bo_bipush (v := 14) dX0_init_16 (by decide) ?_
    refine bo_icmp_ge 41 dX0_init_18 (by decide) (fun b18 => ?_) (fun b18 => ?_)
    · have e : i = 14 := by omega
      subst e
      refine bo_in1 ?_
      refine bo_cell (f' := fun k => some (Q k 0)) hf ?_
      refine bo_out1 ?_
      exact bo_kn rfl rfl (bo_ret dX0_init_41 ⟨ar, Q, rfl⟩)
    · exact absurd (nI_le (a := 14) (by omega) (by omega)) b18
  | succ m ih =>
    intro i hi f Q hf
    refine bo_iload_n dX0_init_15 rfl rfl ?_
    refine bo_bipush (v := 14) dX0_init_16 (by decide) ?_
    refine bo_icmp_ge 41 dX0_init_18 (by decide) (fun b18 => ?_) (fun b18 => ?_)
    · exact absurd b18 (nI_ge (b := 14) (by omega) (by decide))
    · skip
      refine bo_aload_n dX0_init_21 rfl rfl ?_
      refine bo_getF (ci := 0) 0 rfl in_X0_init_X0 (by decide) (by decide +kernel) rfl dX0_init_22 ?_
      refine bo_iload_n dX0_init_25 rfl rfl ?_
      refine bo_new (ci := 4) (fs := [.null, .null, .null, .null, .int 0, .int 0]) tyX4 tyX4_ok rfl in_X0_init_X4 (by decide +kernel) (by decide +kernel) (by decide +kernel) (by decide +kernel) (by omega) (by omega) dX0_init_26 (fun q26 => ?_)
      refine bo_dup dX0_init_29 rfl ?_
      refine bo_aload_n dX0_init_30 rfl rfl ?_
      refine bo_callI (As := [.ref b]) ok_X4_init rfl rfl ci_scene gX0_init_X4_init (by decide +kernel) (by decide +kernel) (by decide +kernel) (by decide) (by omega) (by omega) rfl (Nat.le_of_ble_eq_true rfl) dX0_init_31 (fun ws1 h1 => ?_)
      obtain ⟨qn, qn0, rfl⟩ := h1
      refine bo_app ?_
      rw [← qn0]
      refine bo_ws (ws' := (X ++ [(a, .inr (0, [.ref ar, .int 0, .int 0]))]) ++ (ar, dq_sr g 14 f) :: (scBs g b Q i ++ sceneB g b qn)) (by rw [List.append_assoc]; rfl) ?_
      refine bo_ast (fs := [.ref b, .ref (qn 1), .ref (qn 2), .ref (qn 3), .int 0, .int 0]) i rfl (by omega) (by decide) (List.mem_append_right _ List.mem_cons_self) dX0_init_34 ?_
      refine bo_out1 ?_
      refine bo_iinc dX0_init_35 (by decide) rfl rfl ?_
      refine bo_goto 15 dX0_init_38 (by decide) ?_
      have z := ih (i + 1) (by omega) (va_up f i (some (qn 0))) (va_up Q i qn) (fun k hk => by
        by_cases e : k = i
        · subst e; rw [va_up_self, va_up_self]
        · rw [va_up_ne _ _ e, va_up_ne _ _ e]; exact hf k (by omega))
      rw [scBs, va_up_self, scBs_cong (Q' := Q) (fun k hk => va_up_ne _ _ (by omega)), ← nI_1] at z
      exact bo_kn (by omega) (by omega) z
      
theorem ci_acts {g : GT} {X : va_W} {a b : Nat} : CTB g mX0_init 2 57 308 [.ref a, .ref b] (X ++ [(a, .inr (0, [.null, .int 0, .int 0]))]) (fun ws => ∃ (ar : Nat) (Q : Nat → Nat → Nat), ws = X ++ actsB g a b ar Q) := by
  refine ctb_of ok_X0_init rfl rfl (lv := [some (.ref a), some (.ref b), none]) rfl (Nat.le_of_ble_eq_true rfl) ?_
  refine bo_aload_n dX0_init_0 rfl rfl ?_
  refine bo_obj (by decide +kernel) (by decide +kernel) (by decide +kernel) dX0_init_1 (by decide) ?_
  refine bo_aload_n dX0_init_4 rfl rfl ?_
  refine bo_bipush (v := 14) dX0_init_5 (by decide) ?_
  refine bo_newq (N := 14) (by decide +kernel) (by decide) (by decide) (by decide) (by decide) dX0_init_7 (fun q7 => ?_)
  refine bo_app ?_
  refine bo_putF (fs' := [.ref q7, .int 0, .int 0]) (ci := 0) (ty := .array (.object "DripEars$Scene")) tyX0 0 tyX0_ok nmX0 rfl in_X0_init_X0 (by decide) (by decide +kernel) rfl rfl (by decide +kernel) rfl rfl (Nat.le_of_ble_eq_true rfl) rfl dX0_init_10 ?_
  refine bo_iconst (v := 0) dX0_init_13 (by decide) ?_
  refine bo_istore_n dX0_init_14 rfl (by decide) rfl ?_
  exact li_acts 14 0 rfl (fun _ => none) (fun _ _ => 0) (fun k hk => absurd hk (Nat.not_lt_zero k))
set_option maxRecDepth 100000 in
theorem ci_ears {g : GT} {X : va_W} {a : Nat} : CTB g mX5_init 3 101 612 [.ref a] (X ++ [(a, .inr (5, [.null, .int 0, .null, .null, .null, .null, .null, .null, .null, .null, .long 0, .null, .null, .null, .null]))]) (fun ws => ∃ (s qt qd qn qr qh : Nat → Nat) (Q KQ : Nat → Nat → Nat), s 0 = a ∧ ws = X ++ earsB g s qt qd qn qr qh Q KQ) := by
  refine ctb_of ok_X5_init rfl rfl (lv := [some (.ref a), none]) rfl (Nat.le_of_ble_eq_true rfl) ?_
  refine bo_aload_n dX5_init_0 rfl rfl ?_
  refine bo_obj (by decide +kernel) (by decide +kernel) (by decide +kernel) dX5_init_1 (by decide) ?_
  refine bo_aload_n dX5_init_4 rfl rfl ?_
  refine bo_bipush (v := 64) dX5_init_5 (by decide) ?_
  refine bo_newI (N := 64) (by decide +kernel) (by decide) (by decide) (by decide) (by decide) dX5_init_7 (fun q7 => ?_)
  refine bo_app ?_
  refine bo_putF (fs' := [.ref q7, .int 0, .null, .null, .null, .null, .null, .null, .null, .null, .long 0, .null, .null, .null, .null]) (ci := 5) (ty := .array .int) tyX5 0 tyX5_ok nmX5 rfl in_X5_init_X5 (by decide) (by decide +kernel) rfl rfl (by decide +kernel) rfl rfl (Nat.le_of_ble_eq_true rfl) rfl dX5_init_9 ?_
  refine bo_aload_n dX5_init_12 rfl rfl ?_
  refine bo_iconst (v := 2) dX5_init_13 (by decide) ?_
  refine bo_newq (N := 2) (by decide +kernel) (by decide) (by decide) (by decide) (by decide) dX5_init_14 (fun q14 => ?_)
  refine bo_app ?_
  refine bo_putF (fs' := [.ref q7, .int 0, .null, .null, .null, .null, .null, .null, .ref q14, .null, .long 0, .null, .null, .null, .null]) (ci := 5) (ty := .array (.object "DripEars$Scene")) tyX5 8 tyX5_ok nmX5 rfl in_X5_init_X5 (by decide) (by decide +kernel) rfl rfl (by decide +kernel) rfl rfl (Nat.le_of_ble_eq_true rfl) rfl dX5_init_17 ?_
  refine bo_aload_n dX5_init_20 rfl rfl ?_
  refine bo_iconst (v := 2) dX5_init_21 (by decide) ?_
  refine bo_newZ (N := 2) (by decide +kernel) (by decide) (by decide) (by decide) (by decide) dX5_init_22 (fun q22 => ?_)
  refine bo_app ?_
  refine bo_putF (fs' := [.ref q7, .int 0, .null, .null, .null, .null, .null, .null, .ref q14, .ref q22, .long 0, .null, .null, .null, .null]) (ci := 5) (ty := .array .boolean) tyX5 9 tyX5_ok nmX5 rfl in_X5_init_X5 (by decide) (by decide +kernel) rfl rfl (by decide +kernel) rfl rfl (Nat.le_of_ble_eq_true rfl) rfl dX5_init_24 ?_
  refine bo_aload_n dX5_init_27 rfl rfl ?_
  refine bo_bipush (v := 12) dX5_init_28 (by decide) ?_
  refine bo_newI (N := 12) (by decide +kernel) (by decide) (by decide) (by decide) (by decide) dX5_init_30 (fun q30 => ?_)
  refine bo_app ?_
  refine bo_putF (fs' := [.ref q7, .int 0, .null, .null, .null, .null, .null, .null, .ref q14, .ref q22, .long 0, .ref q30, .null, .null, .null]) (ci := 5) (ty := .array .int) tyX5 11 tyX5_ok nmX5 rfl in_X5_init_X5 (by decide) (by decide +kernel) rfl rfl (by decide +kernel) rfl rfl (Nat.le_of_ble_eq_true rfl) rfl dX5_init_32 ?_
  refine bo_aload_n dX5_init_35 rfl rfl ?_
  refine bo_iconst (v := 5) dX5_init_36 (by decide) ?_
  refine bo_newI (N := 5) (by decide +kernel) (by decide) (by decide) (by decide) (by decide) dX5_init_37 (fun q37 => ?_)
  refine bo_app ?_
  refine bo_putF (fs' := [.ref q7, .int 0, .null, .null, .null, .null, .null, .null, .ref q14, .ref q22, .long 0, .ref q30, .ref q37, .null, .null]) (ci := 5) (ty := .array .int) tyX5 12 tyX5_ok nmX5 rfl in_X5_init_X5 (by decide) (by decide +kernel) rfl rfl (by decide +kernel) rfl rfl (Nat.le_of_ble_eq_true rfl) rfl dX5_init_39 ?_
  refine bo_aload_n dX5_init_42 rfl rfl ?_
  refine bo_iconst (v := 4) dX5_init_43 (by decide) ?_
  refine bo_newI (N := 4) (by decide +kernel) (by decide) (by decide) (by decide) (by decide) dX5_init_44 (fun q44 => ?_)
  refine bo_app ?_
  refine bo_putF (fs' := [.ref q7, .int 0, .null, .null, .null, .null, .null, .null, .ref q14, .ref q22, .long 0, .ref q30, .ref q37, .ref q44, .null]) (ci := 5) (ty := .array .int) tyX5 13 tyX5_ok nmX5 rfl in_X5_init_X5 (by decide) (by decide +kernel) rfl rfl (by decide +kernel) rfl rfl (Nat.le_of_ble_eq_true rfl) rfl dX5_init_46 ?_
  refine bo_aload_n dX5_init_49 rfl rfl ?_
  refine bo_iconst (v := 4) dX5_init_50 (by decide) ?_
  refine bo_newI (N := 4) (by decide +kernel) (by decide) (by decide) (by decide) (by decide) dX5_init_51 (fun q51 => ?_)
  refine bo_app ?_
  refine bo_putF (fs' := [.ref q7, .int 0, .null, .null, .null, .null, .null, .null, .ref q14, .ref q22, .long 0, .ref q30, .ref q37, .ref q44, .ref q51]) (ci := 5) (ty := .array .int) tyX5 14 tyX5_ok nmX5 rfl in_X5_init_X5 (by decide) (by decide +kernel) rfl rfl (by decide +kernel) rfl rfl (Nat.le_of_ble_eq_true rfl) rfl dX5_init_53 ?_
  refine bo_aload_n dX5_init_56 rfl rfl ?_
  refine bo_new (ci := 2) (fs := [.int 0, .int 0, .int 0, .null, .null, .null, .null, .null, .null]) tyX2 tyX2_ok rfl in_X5_init_X2 (by decide +kernel) (by decide +kernel) (by decide +kernel) (by decide +kernel) (by decide) (by decide) dX5_init_57 (fun q57 => ?_)
  refine bo_dup dX5_init_60 rfl ?_
  refine bo_callN (As := []) ok_X2_init rfl rfl ci_lane gX5_init_X2_init_n37 (by decide +kernel) (fun U h => h.1) (by decide +kernel) (by decide) (by decide) (by decide) rfl (Nat.le_of_ble_eq_true rfl) dX5_init_61 (fun ws1 h1 => ?_)
  obtain ⟨qt, qt0, rfl⟩ := h1
  refine bo_app ?_
  rw [← qt0]
  refine bo_putF (fs' := [.ref q7, .int 0, .ref (qt 0), .null, .null, .null, .null, .null, .ref q14, .ref q22, .long 0, .ref q30, .ref q37, .ref q44, .ref q51]) (ci := 5) (ty := .object "DripEars$Lane") tyX5 2 tyX5_ok nmX5 rfl in_X5_init_X5 (by decide) (by decide +kernel) rfl rfl (by decide +kernel) rfl rfl (Nat.le_of_ble_eq_true rfl) rfl dX5_init_64 ?_
  refine bo_aload_n dX5_init_67 rfl rfl ?_
  refine bo_new (ci := 3) (fs := [.null, .null, .int 0, .int 0, .int 0]) tyX3 tyX3_ok rfl in_X5_init_X3 (by decide +kernel) (by decide +kernel) (by decide +kernel) (by decide +kernel) (by decide) (by decide) dX5_init_68 (fun q68 => ?_)
  refine bo_dup dX5_init_71 rfl ?_
  refine bo_callN (As := []) ok_X3_init rfl rfl ci_reader gX5_init_X3_init_n44 (by decide +kernel) (fun U h => h.2.1) (by decide +kernel) (by decide) (by decide) (by decide) rfl (Nat.le_of_ble_eq_true rfl) dX5_init_72 (fun ws1 h1 => ?_)
  obtain ⟨fg, qd, rfl⟩ := h1
  refine bo_app ?_
  refine bo_putF (fs' := [.ref q7, .int 0, .ref (qt 0), .ref q68, .null, .null, .null, .null, .ref q14, .ref q22, .long 0, .ref q30, .ref q37, .ref q44, .ref q51]) (ci := 5) (ty := .object "DripEars$Reader") tyX5 3 tyX5_ok nmX5 rfl in_X5_init_X5 (by decide) (by decide +kernel) rfl rfl (by decide +kernel) rfl rfl (Nat.le_of_ble_eq_true rfl) rfl dX5_init_75 ?_
  refine bo_aload_n dX5_init_78 rfl rfl ?_
  refine bo_new (ci := 4) (fs := [.null, .null, .null, .null, .int 0, .int 0]) tyX4 tyX4_ok rfl in_X5_init_X4 (by decide +kernel) (by decide +kernel) (by decide +kernel) (by decide +kernel) (by decide) (by decide) dX5_init_79 (fun q79 => ?_)
  refine bo_dup dX5_init_82 rfl ?_
  refine bo_aload_n dX5_init_83 rfl rfl ?_
  refine bo_app ?_
  refine bo_getF (ci := 5) 2 rfl in_X5_init_X5 (by decide) (by decide +kernel) rfl dX5_init_84 ?_
  refine bo_unapp ?_
  refine bo_callI (As := [.ref (qt 0)]) ok_X4_init rfl rfl ci_scene gX5_init_X4_init (by decide +kernel) (by decide +kernel) (by decide +kernel) (by decide) (by decide) (by decide) rfl (Nat.le_of_ble_eq_true rfl) dX5_init_87 (fun ws1 h1 => ?_)
  obtain ⟨qn, qn0, rfl⟩ := h1
  refine bo_app ?_
  rw [← qn0]
  refine bo_putF (fs' := [.ref q7, .int 0, .ref (qt 0), .ref q68, .ref (qn 0), .null, .null, .null, .ref q14, .ref q22, .long 0, .ref q30, .ref q37, .ref q44, .ref q51]) (ci := 5) (ty := .object "DripEars$Scene") tyX5 4 tyX5_ok nmX5 rfl in_X5_init_X5 (by decide) (by decide +kernel) rfl rfl (by decide +kernel) rfl rfl (Nat.le_of_ble_eq_true rfl) rfl dX5_init_90 ?_
  refine bo_aload_n dX5_init_93 rfl rfl ?_
  refine bo_new (ci := 4) (fs := [.null, .null, .null, .null, .int 0, .int 0]) tyX4 tyX4_ok rfl in_X5_init_X4 (by decide +kernel) (by decide +kernel) (by decide +kernel) (by decide +kernel) (by decide) (by decide) dX5_init_94 (fun q94 => ?_)
  refine bo_dup dX5_init_97 rfl ?_
  refine bo_aload_n dX5_init_98 rfl rfl ?_
  refine bo_app ?_
  refine bo_getF (ci := 5) 2 rfl in_X5_init_X5 (by decide) (by decide +kernel) rfl dX5_init_99 ?_
  refine bo_unapp ?_
  refine bo_callI (As := [.ref (qt 0)]) ok_X4_init rfl rfl ci_scene gX5_init_X4_init (by decide +kernel) (by decide +kernel) (by decide +kernel) (by decide) (by decide) (by decide) rfl (Nat.le_of_ble_eq_true rfl) dX5_init_102 (fun ws1 h1 => ?_)
  obtain ⟨qr, qr0, rfl⟩ := h1
  refine bo_app ?_
  rw [← qr0]
  refine bo_putF (fs' := [.ref q7, .int 0, .ref (qt 0), .ref q68, .ref (qn 0), .ref (qr 0), .null, .null, .ref q14, .ref q22, .long 0, .ref q30, .ref q37, .ref q44, .ref q51]) (ci := 5) (ty := .object "DripEars$Scene") tyX5 5 tyX5_ok nmX5 rfl in_X5_init_X5 (by decide) (by decide +kernel) rfl rfl (by decide +kernel) rfl rfl (Nat.le_of_ble_eq_true rfl) rfl dX5_init_105 ?_
  refine bo_aload_n dX5_init_108 rfl rfl ?_
  refine bo_new (ci := 0) (fs := [.null, .int 0, .int 0]) tyX0 tyX0_ok rfl in_X5_init_X0 (by decide +kernel) (by decide +kernel) (by decide +kernel) (by decide +kernel) (by decide) (by decide) dX5_init_109 (fun q109 => ?_)
  refine bo_dup dX5_init_112 rfl ?_
  refine bo_aload_n dX5_init_113 rfl rfl ?_
  refine bo_app ?_
  refine bo_getF (ci := 5) 2 rfl in_X5_init_X5 (by decide) (by decide +kernel) rfl dX5_init_114 ?_
  refine bo_unapp ?_
  refine bo_callI (As := [.ref (qt 0)]) ok_X0_init rfl rfl ci_acts gX5_init_X0_init (by decide +kernel) (by decide +kernel) (by decide +kernel) (by decide) (by decide) (by decide) rfl (Nat.le_of_ble_eq_true rfl) dX5_init_117 (fun ws1 h1 => ?_)
  obtain ⟨ah, QA, rfl⟩ := h1
  refine bo_app ?_
  refine bo_putF (fs' := [.ref q7, .int 0, .ref (qt 0), .ref q68, .ref (qn 0), .ref (qr 0), .ref q109, .null, .ref q14, .ref q22, .long 0, .ref q30, .ref q37, .ref q44, .ref q51]) (ci := 5) (ty := .object "DripEars$Acts") tyX5 6 tyX5_ok nmX5 rfl in_X5_init_X5 (by decide) (by decide +kernel) rfl rfl (by decide +kernel) rfl rfl (Nat.le_of_ble_eq_true rfl) rfl dX5_init_120 ?_
  refine bo_aload_n dX5_init_123 rfl rfl ?_
  refine bo_new (ci := 1) (fs := [.null, .null, .null, .int 0]) tyX1 tyX1_ok rfl in_X5_init_X1 (by decide +kernel) (by decide +kernel) (by decide +kernel) (by decide +kernel) (by decide) (by decide) dX5_init_124 (fun q124 => ?_)
  refine bo_dup dX5_init_127 rfl ?_
  refine bo_callN (As := []) ok_X1_init rfl rfl ci_heard gX5_init_X1_init_n68 (by decide +kernel) (fun U h => h.2.2.1) (by decide +kernel) (by decide) (by decide) (by decide) rfl (Nat.le_of_ble_eq_true rfl) dX5_init_128 (fun ws1 h1 => ?_)
  obtain ⟨qh, qh0, rfl⟩ := h1
  refine bo_app ?_
  rw [← qh0]
  refine bo_putF (fs' := [.ref q7, .int 0, .ref (qt 0), .ref q68, .ref (qn 0), .ref (qr 0), .ref q109, .ref (qh 0), .ref q14, .ref q22, .long 0, .ref q30, .ref q37, .ref q44, .ref q51]) (ci := 5) (ty := .object "DripEars$Heard") tyX5 7 tyX5_ok nmX5 rfl in_X5_init_X5 (by decide) (by decide +kernel) rfl rfl (by decide +kernel) rfl rfl (Nat.le_of_ble_eq_true rfl) rfl dX5_init_131 ?_
  refine bo_iconst (v := 0) dX5_init_134 (by decide) ?_
  refine bo_istore_n dX5_init_135 rfl (by decide) rfl ?_
  refine bo_iload_n dX5_init_136 rfl rfl ?_
  refine bo_iconst (v := 2) dX5_init_137 (by decide) ?_
  refine bo_icmp_ge 164 dX5_init_138 (by decide) (fun b => absurd b (by decide)) (fun b => ?_)
  refine bo_aload_n dX5_init_141 rfl rfl ?_
  refine bo_getF (ci := 5) 8 rfl in_X5_init_X5 (by decide) (by decide +kernel) rfl dX5_init_142 ?_
  refine bo_iload_n dX5_init_145 rfl rfl ?_
  refine bo_new (ci := 4) (fs := [.null, .null, .null, .null, .int 0, .int 0]) tyX4 tyX4_ok rfl in_X5_init_X4 (by decide +kernel) (by decide +kernel) (by decide +kernel) (by decide +kernel) (by decide) (by decide) dX5_init_146 (fun q146 => ?_)
  refine bo_dup dX5_init_149 rfl ?_
  refine bo_aload_n dX5_init_150 rfl rfl ?_
  refine bo_app ?_
  refine bo_getF (ci := 5) 2 rfl in_X5_init_X5 (by decide) (by decide +kernel) rfl dX5_init_151 ?_
  refine bo_unapp ?_
  refine bo_callI (As := [.ref (qt 0)]) ok_X4_init rfl rfl ci_scene gX5_init_X4_init (by decide +kernel) (by decide +kernel) (by decide +kernel) (by decide) (by decide) (by decide) rfl (Nat.le_of_ble_eq_true rfl) dX5_init_154 (fun ws1 h1 => ?_)
  obtain ⟨qk0, qk00, rfl⟩ := h1
  refine bo_app ?_
  rw [← qk00]
  refine bo_in2 ?_
  refine bo_ast (fs := [.ref (qt 0), .ref (qk0 1), .ref (qk0 2), .ref (qk0 3), .int 0, .int 0]) 0 rfl (by decide) (by decide) (List.mem_append_right _ List.mem_cons_self) dX5_init_157 ?_
  refine bo_out2 ?_
  refine bo_iinc dX5_init_158 (by decide) rfl rfl ?_
  refine bo_goto 136 dX5_init_161 (by decide) ?_
  
  refine bo_iload_n dX5_init_136 rfl rfl ?_
  refine bo_iconst (v := 2) dX5_init_137 (by decide) ?_
  refine bo_icmp_ge 164 dX5_init_138 (by decide) (fun b => absurd b (by decide)) (fun b => ?_)
  refine bo_aload_n dX5_init_141 rfl rfl ?_
  refine bo_getF (ci := 5) 8 rfl in_X5_init_X5 (by decide) (by decide +kernel) rfl dX5_init_142 ?_
  refine bo_iload_n dX5_init_145 rfl rfl ?_
  refine bo_new (ci := 4) (fs := [.null, .null, .null, .null, .int 0, .int 0]) tyX4 tyX4_ok rfl in_X5_init_X4 (by decide +kernel) (by decide +kernel) (by decide +kernel) (by decide +kernel) (by decide) (by decide) dX5_init_146 (fun q146 => ?_)
  refine bo_dup dX5_init_149 rfl ?_
  refine bo_aload_n dX5_init_150 rfl rfl ?_
  refine bo_app ?_
  refine bo_getF (ci := 5) 2 rfl in_X5_init_X5 (by decide) (by decide +kernel) rfl dX5_init_151 ?_
  refine bo_unapp ?_
  refine bo_callI (As := [.ref (qt 0)]) ok_X4_init rfl rfl ci_scene gX5_init_X4_init (by decide +kernel) (by decide +kernel) (by decide +kernel) (by decide) (by decide) (by decide) rfl (Nat.le_of_ble_eq_true rfl) dX5_init_154 (fun ws1 h1 => ?_)
  obtain ⟨qk1, qk10, rfl⟩ := h1
  refine bo_app ?_
  rw [← qk10]
  refine bo_in2 ?_
  refine bo_ast (fs := [.ref (qt 0), .ref (qk1 1), .ref (qk1 2), .ref (qk1 3), .int 0, .int 0]) 1 rfl (by decide) (by decide) (List.mem_append_right _ List.mem_cons_self) dX5_init_157 ?_
  refine bo_out2 ?_
  refine bo_iinc dX5_init_158 (by decide) rfl rfl ?_
  refine bo_goto 136 dX5_init_161 (by decide) ?_
  
  refine bo_iload_n dX5_init_136 rfl rfl ?_
  refine bo_iconst (v := 2) dX5_init_137 (by decide) ?_
  refine bo_icmp_ge 164 dX5_init_138 (by decide) (fun b => ?_) (fun b => absurd (by decide) b)
  refine bo_in2 ?_
  refine bo_cell (f' := fun k => some ((fun j => if j = 0 then qk0 else qk1) k 0)) (fun j hj => by
    rcases (show j = 0 ∨ j = 1 by omega) with rfl | rfl <;> rfl) ?_
  refine bo_out2 ?_
  refine bo_ret dX5_init_164 ?_
  exact ⟨qs [a, q7, q14, q22, q30, q37, q44, q51, q68, fg, q109, ah], qt, qd, qn, qr, qh, QA, (fun j => if j = 0 then qk0 else qk1), rfl, rfl⟩
