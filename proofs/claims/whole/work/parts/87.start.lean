theorem lm_n37 : Cond.methodLinkNest RX5 37 yX2_init "DripEars" ∈ lw_tbl := lwt_1 (List.mem_of_getElem? (i := 23) (by decide +kernel))
theorem lm_n44 : Cond.methodLinkNest RX5 44 yX3_init "DripEars" ∈ lw_tbl := lwt_1 (List.mem_of_getElem? (i := 75) (by decide +kernel))
theorem lm_n68 : Cond.methodLinkNest RX5 68 yX1_init "DripEars" ∈ lw_tbl := lwt_1 (List.mem_of_getElem? (i := 148) (by decide +kernel))
theorem lm_n11 : Cond.methodLinkNest RX3 11 yX2_init "DripEars" ∈ lw_tbl := lwt_1 (List.mem_of_getElem? (i := 80) (by decide +kernel))
theorem lm_e1 : dq_n1 ∈ lw_tbl := lwt_2 (List.mem_of_getElem? (i := 81) (by decide +kernel))
theorem lm_e2 : dq_n2 ∈ lw_tbl := lwt_3 (List.mem_of_getElem? (i := 33) (by decide +kernel))
theorem lm_ls : Cond.laysStatic "DripEars" "EAR" "[I" ∈ lw_tbl := lwt_2 (List.mem_of_getElem? (i := 82) (by decide +kernel))
theorem lm_iX0 : Cond.instantiable RX0 3 ∈ lw_tbl := lwt_1 (List.mem_of_getElem? (i := 128) (by decide +kernel))
theorem lm_iX1 : Cond.instantiable RX1 4 ∈ lw_tbl := lwt_1 (List.mem_of_getElem? (i := 147) (by decide +kernel))
theorem lm_iX2 : Cond.instantiable RX2 9 ∈ lw_tbl := lwt_1 (List.mem_of_getElem? (i := 22) (by decide +kernel))
theorem lm_iX3 : Cond.instantiable RX3 5 ∈ lw_tbl := lwt_1 (List.mem_of_getElem? (i := 74) (by decide +kernel))
theorem lm_iX4 : Cond.instantiable RX4 6 ∈ lw_tbl := lwt_1 (List.mem_of_getElem? (i := 98) (by decide +kernel))
theorem lm_iX5 : Cond.instantiable RX5 15 ∈ lw_tbl := lwt_1 (List.mem_of_getElem? (i := 12) (by decide +kernel))
theorem lm_iX6 : Cond.instantiable RX6 28 ∈ lw_tbl := lwt_3 (List.mem_of_getElem? (i := 105) (by decide +kernel))
theorem lm_zX5 : Cond.initialized RX5 ∈ lw_tbl := lwt_1 (List.mem_of_getElem? (i := 1) (by decide +kernel))
theorem lm_cX5 : Cond.classLink RL 7 RX5 ∈ lw_tbl := lwt_1 (List.mem_of_getElem? (i := 11) (by decide +kernel))
theorem lm_mX5 : Cond.methodLink RL 9 yX5_init ∈ lw_tbl := lwt_1 (List.mem_of_getElem? (i := 13) (by decide +kernel))
theorem lm_kX5 : Cond.instanceMethod yX5_init ∈ lw_tbl := lwt_1 (List.mem_of_getElem? (i := 14) (by decide +kernel))
theorem lm_zX6 : Cond.initialized RX6 ∈ lw_tbl := lwt_1 (List.mem_of_getElem? (i := 7) (by decide +kernel))
theorem lm_cX6 : Cond.classLink RL 10 RX6 ∈ lw_tbl := lwt_3 (List.mem_of_getElem? (i := 104) (by decide +kernel))
theorem lm_mX6 : Cond.methodLink RL 12 yX6_init ∈ lw_tbl := lwt_3 (List.mem_of_getElem? (i := 106) (by decide +kernel))
theorem lm_kX6 : Cond.instanceMethod yX6_init ∈ lw_tbl := lwt_3 (List.mem_of_getElem? (i := 107) (by decide +kernel))
theorem lm_ao : Cond.arrayOver (.object "DripEars$Scene") ∈ lw_tbl := lwt_1 (List.mem_of_getElem? (i := 20) (by decide +kernel))
theorem lm_ai : Cond.arrayClass .int ∈ lw_tbl := lwt_1 (List.mem_of_getElem? (i := 71) (by decide +kernel))
theorem lm_ab : Cond.arrayClass .boolean ∈ lw_tbl := lwt_1 (List.mem_of_getElem? (i := 72) (by decide +kernel))
theorem lb_call {g : GT} {p : Program} {e : Env} {s : State} {m : MethodId} {args : Array Value} {below : List Frame} {meth : Method} {c : Code} {H : Heap} {locs : List Loc} {ls : Array Slot} {Q : State → Prop} {mi2 : MI} {d2 kc nn idx q k n pc : Nat} {rest : List Value} {ws : va_W} {R2 : va_W → Prop} (hx : p.tables.exec = Jvm.exec) (hb : c.code = code) (hml : c.maxLocals = 4) (hown : s.vm.findClass RL = some m.cls) (hts : ∀ w ∈ lw_tbl, w.before args s = true) (hSt : bo_St g s) (hz : dq_z g = s.heap.size) (hP : va_P (dq_D g) vwCl ws H) (hD : va_D (dq_AA g) ws) (hS : va_S (dq_AA g) s.heap H locs) (hl : ls.size = 4) (ok : MOK mi2 0) (hr : mi_r mi2 = none) (hnm : (mi_y mi2).name = "<init>") (hc : CTB g mi2 d2 kc nn [.ref q] ws R2) (hG : GoodIn lw_tbl (mi_w mi2)) (hw1 : Cond.initialized (mi_y mi2).cls ∈ lw_tbl) (hw2 : Cond.methodLink RL idx (mi_y mi2) ∈ lw_tbl) (hw3 : Cond.instanceMethod (mi_y mi2) ∈ lw_tbl) (hdd : d2 ≤ 8) (hk : k + kc ≤ 600000) (hn : n + nn ≤ 7302250) (hrs : (rest.map fun v => v.category).sum ≤ 8) (hd : decode code pc = .ok (.invokespecial idx, 3)) (K : ∀ (ws' : va_W) (H' : Heap) (locs' : List Loc), R2 ws' → va_P (dq_D g) vwCl ws' H' → va_D (dq_AA g) ws' → va_S (dq_AA g) s.heap H' locs' → W p (dq_l g) e room_1 s m args below meth c H' locs' (k + kc) (n + nn) Q (F0 m (pc + 3) ls rest)) : W p (dq_l g) e room_1 s m args below meth c H locs k n Q (F0 m pc ls (.ref q :: rest)) := by
  have hrun : va_Run p (dq_l g) e room_1 s m args below meth c H locs k n kc nn (F0 m pc ls (.ref q :: rest)) rest (QB g R2 [Value.ref q].toArray) (dq_AA g) := by
    refine va_runI (As := []) (rest := rest) (b := q) (n := 0) ⟨hx, hb, hml, hown, hts⟩ hc (cwI 0 hts hG (ok.1.trans (by rw [hr])) rfl rfl (hts _ hw1) (hts _ hw2) (hts _ hw3) hnm ok.2.2.1 ⟨?_, ?_⟩) ⟨bo_blind, fun U hU hW => ⟨rfl, bo_at hSt (Nat.le_of_eq hz) hS hP hD hU hW⟩⟩ rfl rfl hl rfl (lv_room hrs) hd ⟨hk, hn⟩
    · show d2 + 1 ≤ 10
      omega
    · have h1 := ok.2.2.2.1
      show 8 + (mi_n mi2 + 11) + 38 * d2 ≤ 388
      omega
  intro T hT X
  obtain ⟨v, st₀, t, T', Lc, h0, X', hL, e1, e2, ⟨⟨hv, ws', hR, hP1, hD1⟩, hz2, hk2⟩, st⟩ := hrun T hT X
  cases hv
  rw [h0] at hz2 hk2
  obtain ⟨t2, a1, b1⟩ := K ws' T'.heap (locs ++ Lc) hR (by rw [e1]; exact hP1) hD1
    ⟨Nat.le_trans hS.1 (by rw [e1]; exact hz2), fun q h1 h2 => by rw [e1, hk2 q (Nat.lt_of_lt_of_le h1 hS.1) h2]; exact hS.2.1 q h1 h2, fun q hq => by
      rcases List.mem_append.mp hq with h | h
      · exact hS.2.2 q h
      · exact hL q h⟩ T' rfl X'
  exact ⟨t2, st t2 a1, b1⟩
theorem ls_K {s : State} {args : Array Value} (hts : ∀ w ∈ lw_tbl, w.before args s = true) : ∃ (D : va_G) (ids : ClassId × ClassId × ClassId), va_K D vwCl [(ids.1, .int), (ids.2.1, .boolean), (ids.2.2, .object "DripEars$Scene")] s := by
  obtain ⟨c0, iS0, hKn0⟩ := u_known (C := RX0) (T := TX0) (N := 3) (n := 3) hts (fun w h => (gf_X0 w h).1) (hts _ lm_iX0)
  obtain ⟨c1, iS1, hKn1⟩ := u_known (C := RX1) (T := TX1) (N := 4) (n := 4) hts (fun w h => (gf_X1 w h).1) (hts _ lm_iX1)
  obtain ⟨c2, iS2, hKn2⟩ := u_known (C := RX2) (T := TX2) (N := 9) (n := 9) hts (fun w h => (gf_X2 w h).1) (hts _ lm_iX2)
  obtain ⟨c3, iS3, hKn3⟩ := u_known (C := RX3) (T := TX3) (N := 5) (n := 5) hts (fun w h => (gf_X3 w h).1) (hts _ lm_iX3)
  obtain ⟨c4, iS4, hKn4⟩ := u_known (C := RX4) (T := TX4) (N := 6) (n := 6) hts (fun w h => (gf_X4 w h).1) (hts _ lm_iX4)
  obtain ⟨c5, iS5, hKn5⟩ := u_known (C := RX5) (T := TX5) (N := 15) (n := 15) hts (fun w h => (gf_X5 w h).1) (hts _ lm_iX5)
  obtain ⟨c6, iS6, hKn6⟩ := u_known (C := RX6) (T := TX6) (N := 28) (n := 28) hts (fun w h => (gf_X6 w h).1) (hts _ lm_iX6)
  obtain ⟨dC, dI, hKc⟩ : ∃ (dC : Nat → ClassId) (dI : Nat → Nat → Nat), ∀ (k : Nat) (q : vw_C), vwCl[k]? = some q → u_Kn s q.1 q.2.1 q.2.2 (dC k) (dI k) := by
    refine ⟨fun k => if k = 0 then c0 else if k = 1 then c1 else if k = 2 then c2 else if k = 3 then c3 else if k = 4 then c4 else if k = 5 then c5 else c6, fun k => if k = 0 then iS0 else if k = 1 then iS1 else if k = 2 then iS2 else if k = 3 then iS3 else if k = 4 then iS4 else if k = 5 then iS5 else iS6, ?_⟩
    intro k q hq
    match k, hq with
    | 0, hq => cases hq; exact hKn0
    | 1, hq => cases hq; exact hKn1
    | 2, hq => cases hq; exact hKn2
    | 3, hq => cases hq; exact hKn3
    | 4, hq => cases hq; exact hKn4
    | 5, hq => cases hq; exact hKn5
    | 6, hq => cases hq; exact hKn6
    | k + 7, hq => simp [vwCl] at hq
  obtain ⟨cI, kI, coI, i1, i2, i3⟩ := Cond.arrayClass_spec (hts _ lm_ai)
  obtain ⟨cB, kB, coB, b1, b2, b3⟩ := Cond.arrayClass_spec (hts _ lm_ab)
  obtain ⟨coS, cS, kS, s1, s2, s3, s4, s5⟩ := Cond.arrayOver_spec (hts _ lm_ao)
  refine ⟨(dC, dI), (cI, cB, cS), hKc, fun k q hq => ?_⟩
  match k, hq with
  | 0, hq => cases hq; exact ⟨fun n z => ⟨fun k h => (by cases h), kI, i2, coI, i3⟩, i1⟩
  | 1, hq => cases hq; exact ⟨fun n z => ⟨fun k h => (by cases h), kB, b2, coB, b3⟩, b1⟩
  | 2, hq => cases hq; exact ⟨fun n z => ⟨fun k h => (by cases h), kS, s3, coS, s4⟩, kS, coS, s3, s4, s1, s5⟩
  | k + 3, hq => simp at hq
theorem ls_E {s : State} {args : Array Value} (hts : ∀ w ∈ lw_tbl, w.before args s = true) (hgv : (Jvm.Cond.and given_1 narrow_1).before args s = true) : ∃ E : Nat, va_Z "DripEars" "EAR" "[I" (.ref E) (fun q => s.heap.size ≤ q) s s.heap ∧ va_T .int E 4 (fun j => .int (dq_ear j)) (fun q => s.heap.size ≤ q) s s.heap := by
  have hs := flat_of_before _ hgv
  have hA : ∀ a : Nat, a < s.heap.size → ¬ (fun q : Nat => s.heap.size ≤ q) a := fun a h1 h2 => absurd h1 (Nat.not_lt.mpr h2)
  obtain ⟨E, hE, hT⟩ := va_Tof (tm := .static "DripEars" "EAR" "[I") (ty := .int) (N := 4) (f := fun j => .int (dq_ear j)) (A := fun q => s.heap.size ≤ q) (by decide) (hs (Cond.arrayOf (.static "DripEars" "EAR" "[I") .int) (by decide +kernel)) (va_eqt (hs (Cond.eq (.length (.static "DripEars" "EAR" "[I")) (.int 4)) (by decide +kernel))) (fun j hj => by
    rcases (show j = 0 ∨ j = 1 ∨ j = 2 ∨ j = 3 by omega) with rfl | rfl | rfl | rfl
    · exact va_eqt (hs (Cond.eq (.elem (.static "DripEars" "EAR" "[I") (.int 0)) (.int 0)) (by decide +kernel))
    · exact va_eqt (hs (Cond.eq (.elem (.static "DripEars" "EAR" "[I") (.int 1)) (.int 2)) (by decide +kernel))
    · exact va_eqt (hs (Cond.eq (.elem (.static "DripEars" "EAR" "[I") (.int 2)) (.int (-2))) (by decide +kernel))
    · exact va_eqt (hs (Cond.eq (.elem (.static "DripEars" "EAR" "[I") (.int 3)) (.int 0)) (by decide +kernel))) hA
  exact ⟨E, va_Zref (hts _ lm_ls) (hts _ lm_zX5) hE hA, hT⟩
theorem whole_start {p : Program} {e : Env} {s : State} {m : MethodId} {below : List Frame} {meth : Method} {c : Code} (l : Launch) (hflags : l.flags = flags0) {b L : Nat} {xs : Nat → Int32} (hL : L ≤ 3072) (C0 : lw_At p s m meth c b L xs) : W p l e room_1 s m #[Value.ref b] below meth c s.heap [] 0 0 (lw_Z below #[Value.ref b] s) (entryFrame m ([Value.ref b] : List Value).toArray 4) := by
  obtain ⟨hx, hb, hr, hml, hown, hts, hX, hbl, hlocks, hgv⟩ := id C0
  have hown : s.vm.findClass RL = some m.cls := hown
  obtain ⟨D, ids, hK0⟩ := ls_K hts
  obtain ⟨E, hZ, hT⟩ := ls_E hts hgv
  have hK : va_K (dq_D (gOf l D (fun _ => 0) s.heap.size ids E)) vwCl (dq_T (gOf l D (fun _ => 0) s.heap.size ids E)) s := hK0
  have hN : bo_N s := ⟨va_Nw.of rfl (hts _ lm_n37), va_Nw.of rfl (hts _ lm_n44), va_Nw.of rfl (hts _ lm_n68), va_Nw.of rfl (hts _ lm_n11), va_AO.of (hts _ lm_ao)⟩
  have hA : ∀ q : Nat, s.heap.size ≤ q → dq_AA (gOf l D (fun _ => 0) s.heap.size ids E) q := fun _ h => h
  have hS : va_S (dq_AA (gOf l D (fun _ => 0) s.heap.size ids E)) s.heap s.heap [] := va_S.rf
  have hP : va_P (dq_D (gOf l D (fun _ => 0) s.heap.size ids E)) vwCl [] s.heap := fun k q h => by simp at h
  have hD : va_D (dq_AA (gOf l D (fun _ => 0) s.heap.size ids E)) [] := ⟨fun i j p q h => by simp at h, fun k q h => by simp at h⟩
  have hl := lv_entry ([.ref b]) (n := 4) (Nat.le_of_ble_eq_true rfl)
  rw [lg_entry_eq]
  generalize (lg_sl ([.ref b]) ++ List.replicate (4 - (lg_sl ([.ref b])).length) Slot.unset).toArray = ls at hl ⊢
  have hl : lv_has ls 4 [(0, .ref b)] := hl
  refine va_new (ci := 5) (fs := [.null, .int 0, .null, .null, .null, .null, .null, .null, .null, .null, .long 0, .null, .null, .null, .null]) (C := RX5) (T := TX5) (N := 15) hx hb hts (fun w h => (gf_X5 w h).1) tyX5 tyX5_ok hown (hts _ lm_cX5) (hts _ lm_iX5) (hts _ lm_zX5) hK hP hD hS hA rfl (by decide +kernel) (Nat.le_of_ble_eq_true rfl) (Nat.le_of_ble_eq_true rfl) dL_law_0 (fun q0 H1 hP1 hD1 hS1 => ?_)
  refine lv_dup hx hb dL_law_3 rfl ?_
  refine lb_call hx hb hml hown hts ⟨hK, hN⟩ rfl hP1 hD1 hS1 hl.1 ok_X5_init rfl rfl (ci_ears (X := [])) gl_X5_init lm_zX5 lm_mX5 lm_kX5 (by decide) (Nat.le_of_ble_eq_true rfl) (Nat.le_of_ble_eq_true rfl) (Nat.le_of_ble_eq_true rfl) dL_law_4 (fun ws2 H2 locs2 hR2 hP2 hD2 hS2 => ?_)
  obtain ⟨sq, qt, qd, qn, qr, qh, Q, KQ, hs0, rfl⟩ := hR2
  subst hs0
  refine lv_astore_n (lv' := [(1, .ref (sq 0)), (0, .ref b)]) hx hb dL_law_7 rfl hl (by decide) rfl (fun ls hl => ?_)
  refine va_new (ci := 6) (fs := [.int 0, .int 0, .int 0, .null, .null, .null, .null, .null, .null, .null, .null, .int 0, .int 0, .int 0, .null, .int 0, .int 0, .int 0, .int 0, .int 0, .null, .int 0, .null, .null, .null, .long 0, .null, .null]) (C := RX6) (T := TX6) (N := 28) hx hb hts (fun w h => (gf_X6 w h).1) tyX6 tyX6_ok hown (hts _ lm_cX6) (hts _ lm_iX6) (hts _ lm_zX6) hK hP2 hD2 hS2 hA rfl (by decide +kernel) (Nat.le_of_ble_eq_true rfl) (Nat.le_of_ble_eq_true rfl) dL_law_8 (fun q1 H3 hP3 hD3 hS3 => ?_)
  refine lv_dup hx hb dL_law_11 rfl ?_
  refine lb_call hx hb hml hown hts ⟨hK, hN⟩ rfl hP3 hD3 hS3 hl.1 ok_X6_init rfl rfl ci_model gl_X6_init lm_zX6 lm_mX6 lm_kX6 (by decide) (Nat.le_of_ble_eq_true rfl) (Nat.le_of_ble_eq_true rfl) (Nat.le_of_ble_eq_true rfl) dL_law_12 (fun ws4 H4 locs4 hR4 hP4 hD4 hS4 => ?_)
  obtain ⟨qm, hm0, rfl⟩ := hR4
  subst hm0
  refine lv_astore_n (lv' := [(2, .ref (qm 0)), (1, .ref (sq 0)), (0, .ref b)]) hx hb dL_law_15 rfl hl (by decide) rfl (fun ls hl => ?_)
  refine lv_iconst (v := 0) hx hb dL_law_16 (by decide) ?_
  refine lv_istore_n (lv' := [(3, .int 0), (2, .ref (qm 0)), (1, .ref (sq 0)), (0, .ref b)]) hx hb dL_law_17 rfl hl (by decide) rfl (fun ls hl => ?_)
  refine W.widen (k := 600000) (n := 7302250) (Nat.le_of_ble_eq_true rfl) (Nat.le_of_ble_eq_true rfl) ?_
  rw [List.nil_append] at hP4 hD4
  have hP5 := as_P hP4
  have hD5 := as_D hD4
  refine law_loop (g := gOf l D (adF sq qt qd qn qr qh qm Q KQ) s.heap.size ids E) (xs := xs) hL 512 0 0 (by omega) (by omega) (by decide) M_0 L_0 S_0 s0_C s0_R s0_ok p e s m below meth c H4 locs4 ls ⟨hx, hb, hr, hml, hown, hts, hlocks, ⟨hK0, hD5, hZ, hT, va_Nw.of rfl (hts _ lm_e1), va_Nw.of rfl (hts _ lm_e2)⟩, hX, hbl, rfl⟩ hP5 hS4 ⟨hl.1, hl.2.1, fun i v hi => ?_⟩
  match i, hi with
  | 0, hi => cases hi; exact hl.2.2 (0, .ref b) (by simp)
  | 1, hi => cases hi; exact hl.2.2 (1, .ref (sq 0)) (by simp)
  | 2, hi => cases hi; exact hl.2.2 (2, .ref (qm 0)) (by simp)
  | 3, hi => cases hi; exact hl.2.2 (3, .int 0) (by simp)
  | i + 4, hi => simp at hi
